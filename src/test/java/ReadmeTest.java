import java.io.IOException;
import java.nio.file.Files;
import java.nio.file.Path;
import java.util.ArrayList;
import java.util.List;

/** The examples in README.md: each line is done here too, and answers what its comment begins with. */
public final class ReadmeTest {
    private static final List<String> SHOWN = new ArrayList<>();
    private static int next = 0;

    public static void main(String[] args) throws IOException {
        readExamples();
        onePackage();
        Due.is("lines of the examples that are done here", next, SHOWN.size());
        Due.end();
    }

    private static void readExamples() throws IOException {
        boolean inside = false;
        for (String line : Files.readAllLines(Path.of("README.md"))) {
            if (line.startsWith("```")) {
                inside = line.equals("```java");
            } else if (inside) {
                SHOWN.add(line);
            }
        }
    }

    private static void onePackage() {
        UpdatePacks x = new UpdatePacks();
        done("UpdatePacks x = new UpdatePacks();");
        answers("x.controller(7);", x.controller(7));
        octet(x, 7);
        octet(x, 42);
        answers("x.package0(1, 1, true);", x.package0(1, 1, true));
        answers("x.digest(0);", x.digest(0));
        step(x, 1);
        step(x, 1);
        step(x, 1);
        answers("x.counter(1);", x.counter(1));
        answers("x.bank(1, 1, 1);", x.bank(1, 1, 1));
        twoTogether(x);
    }

    private static void twoTogether(UpdatePacks x) {
        answers("x.controller(9);", x.controller(9));
        octet(x, 7);
        answers("x.package0(1, 5, true);", x.package0(1, 5, true));
        octet(x, 9);
        answers("x.package0(2, 6, true);", x.package0(2, 6, true));
        answers("x.needs(2, 3);", x.needs(2, 3));
        step(x, 1);
        step(x, 1);
        step(x, 2);
        step(x, 2);
        step(x, 1);
        answers("x.joint();", x.joint());
        answers("x.cut();", x.cut());
        answers("x.boot(2);", x.boot(2));
        answers("x.boot(1);", x.boot(1));
        answers("x.joint();", x.joint());
        answers("x.rollback();", x.rollback());
        answers("x.counter(1);", x.counter(1));
        answers("x.counter(2);", x.counter(2));
    }

    private static void octet(UpdatePacks x, int b) {
        x.octet((byte) b);
        done("x.octet((byte) " + b + ");");
    }

    private static void step(UpdatePacks x, int controller) {
        answers("x.step(" + controller + ");", x.step(controller));
    }

    /** The next line of the examples does this, and what stands behind it is returned. */
    private static String done(String code) {
        String line = next < SHOWN.size() ? SHOWN.get(next) : "";
        next++;
        Due.is("README.md's example has '" + code + "' where '" + line + "' stands", line.startsWith(code) ? 1 : 0, 1);
        return line.startsWith(code) ? line.substring(code.length()).strip() : "";
    }

    private static void answers(String code, long got) {
        String told = done(code).replaceFirst("^// (-?[0-9]+)(:.*)?$", "$1");
        Due.is("README.md tells '" + told + "' of " + code + " and it answered " + got,
                told.equals(Long.toString(got)) ? 1 : 0, 1);
    }
}
