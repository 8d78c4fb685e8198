/-! the logic of packages, sets and banks, over plain numbers: g 0 c open package of controller c, g 1 p its controller, g 2 p its set, g 3 p its state, g 4 p its bank, g 5 c the running bank, g 6 0 the last set, g 7 c its last package, g 8 (2 c + b) the package in bank b -/
def gu (g : Nat → Nat → Nat) (k j x : Nat) : Nat → Nat → Nat := fun a b => if a = k ∧ b = j then x else g a b
def L1 (n P : Nat) (g : Nat → Nat → Nat) : Prop := ∀ c, 1 ≤ c → c ≤ n → g 0 c ≤ P ∧ (g 0 c ≠ 0 → g 1 (g 0 c) = c ∧ g 2 (g 0 c) ≠ 0)
def L2 (n P : Nat) (g : Nat → Nat → Nat) : Prop := ∀ p, 1 ≤ p → p ≤ P → 1 ≤ g 1 p ∧ g 1 p ≤ n ∧ g 2 p ≤ P ∧ 1 ≤ g 3 p ∧ g 3 p ≤ 3
def L3 (P : Nat) (g : Nat → Nat → Nat) : Prop := ∀ p q, 1 ≤ p → p ≤ P → 1 ≤ q → q ≤ P → g 2 p = g 2 q → g 2 p ≠ 0 → (g 0 (g 1 p) = p → g 0 (g 1 q) = q) ∧ (g 1 p = g 1 q → p = q)
def L4 (P : Nat) (g : Nat → Nat → Nat) : Prop := g 6 0 ≤ P ∧ (g 6 0 ≠ 0 → ∃ p, 1 ≤ p ∧ p ≤ P ∧ g 2 p = g 6 0)
def L5 (P : Nat) (g : Nat → Nat → Nat) : Prop := ∀ p, 1 ≤ p → p ≤ P → g 2 p = g 6 0 → g 6 0 ≠ 0 → g 0 (g 1 p) ≠ p ∧ g 7 (g 1 p) = p
def L6 (n P : Nat) (g : Nat → Nat → Nat) : Prop := ∀ c, 1 ≤ c → c ≤ n → g 7 c ≠ 0 → g 7 c ≤ P ∧ g 2 (g 7 c) = g 6 0 ∧ g 1 (g 7 c) = c ∧ g 6 0 ≠ 0
def L7 (n P : Nat) (g : Nat → Nat → Nat) : Prop := ∀ c b, 1 ≤ c → c ≤ n → b < 2 → g 8 (2 * c + b) ≠ 0 → g 8 (2 * c + b) ≤ P ∧ g 1 (g 8 (2 * c + b)) = c ∧ g 4 (g 8 (2 * c + b)) = b ∧ 2 ≤ g 3 (g 8 (2 * c + b))
def L8 (n : Nat) (g : Nat → Nat → Nat) : Prop := ∀ c, 1 ≤ c → c ≤ n → g 0 c ≠ 0 → (g 3 (g 0 c) = 2 → g 4 (g 0 c) = 1 - g 5 c ∧ g 8 (2 * c + (1 - g 5 c)) = g 0 c) ∧ (g 3 (g 0 c) = 3 → g 4 (g 0 c) = g 5 c ∧ g 8 (2 * c + g 5 c) = g 0 c)
def L9 (n : Nat) (g : Nat → Nat → Nat) : Prop := ∀ c, 1 ≤ c → c ≤ n → g 7 c ≠ 0 → g 8 (2 * c + g 4 (g 7 c)) = g 7 c ∧ (g 0 c = 0 ∨ g 3 (g 0 c) ≠ 3 → g 4 (g 7 c) = g 5 c)
def La (n P : Nat) (g : Nat → Nat → Nat) : Prop := (∀ c, g 5 c < 2) ∧ (∀ p, g 4 p < 2) ∧ (∀ c, c = 0 ∨ n < c → g 0 c = 0 ∧ g 5 c = 0 ∧ g 7 c = 0 ∧ g 8 (2 * c) = 0 ∧ g 8 (2 * c + 1) = 0) ∧ ∀ p, p = 0 ∨ P < p → g 1 p = 0 ∧ g 2 p = 0
def Lg (n P : Nat) (g : Nat → Nat → Nat) : Prop := L1 n P g ∧ L2 n P g ∧ L3 P g ∧ L4 P g ∧ L5 P g ∧ L6 n P g ∧ L7 n P g ∧ L8 n g ∧ L9 n g ∧ La n P g
theorem gu_e {g : Nat → Nat → Nat} {k j x a b : Nat} : gu g k j x a b = if a = k ∧ b = j then x else g a b := rfl
theorem Lg_0 : Lg 0 0 (fun _ _ => 0) := by
  refine ⟨fun c h1 h2 => by omega, fun p h1 h2 => by omega, fun p q h1 h2 => by omega, ⟨Nat.le_refl _, fun h => absurd rfl h⟩, fun p h1 h2 => by omega, fun c h1 h2 => by omega, fun c b h1 h2 => by omega, fun c h1 h2 => by omega, fun c h1 h2 => by omega, fun _ => Nat.zero_lt_two, fun _ => Nat.zero_lt_two, fun c _ => ⟨rfl, rfl, rfl, rfl, rfl⟩, fun p _ => ⟨rfl, rfl⟩⟩
theorem Lg_ctl {n P : Nat} {g : Nat → Nat → Nat} (h : Lg n P g) : Lg (n + 1) P g := by
  obtain ⟨l1, l2, l3, l4, l5, l6, l7, l8, l9, la1, la2, la3, la4⟩ := h
  obtain ⟨z0, z5, z7, z8, z9⟩ := la3 (n + 1) (Or.inr (by omega))
  have hc : ∀ c, 1 ≤ c → c ≤ n + 1 → c ≤ n ∨ c = n + 1 := fun c _ _ => by omega
  refine ⟨fun c h1 h2 => ?_, fun p h1 h2 => ?_, l3, l4, l5, fun c h1 h2 h3 => ?_, fun c b h1 h2 h3 h4 => ?_, fun c h1 h2 h3 => ?_, fun c h1 h2 h3 => ?_, la1, la2, fun c h => la3 c (by omega), la4⟩
  · rcases hc c h1 h2 with h | rfl
    · exact l1 c h1 h
    · rw [z0]; exact ⟨Nat.zero_le _, fun h => absurd rfl h⟩
  · have := l2 p h1 h2
    omega
  · rcases hc c h1 h2 with h | rfl
    · exact l6 c h1 h h3
    · exact absurd z7 h3
  · rcases hc c h1 h2 with h | rfl
    · exact l7 c b h1 h h3 h4
    · rcases (show b = 0 ∨ b = 1 by omega) with rfl | rfl
      · exact absurd z8 h4
      · exact absurd z9 h4
  · rcases hc c h1 h2 with h | rfl
    · exact l8 c h1 h h3
    · exact absurd z0 h3
  · rcases hc c h1 h2 with h | rfl
    · exact l9 c h1 h h3
    · exact absurd z7 h3
theorem Lg_pk {n P c : Nat} {g G : Nat → Nat → Nat} (h : Lg n P g) (h1 : 1 ≤ c) (h2 : c ≤ n) (hs : g 0 c = 0 ∨ g 3 (g 0 c) = 1) (q0 : ∀ b, G 0 b = if b = c then P + 1 else g 0 b) (q1 : ∀ b, G 1 b = if b = P + 1 then c else g 1 b) (q2 : ∀ b, G 2 b = if b = P + 1 then P + 1 else if b = g 0 c then 0 else g 2 b) (q3 : ∀ b, G 3 b = if b = P + 1 then 1 else g 3 b) (q4 : ∀ b, G 4 b = g 4 b) (q5 : ∀ b, G 5 b = g 5 b) (q6 : ∀ b, G 6 b = g 6 b) (q7 : ∀ b, G 7 b = g 7 b) (q8 : ∀ b, G 8 b = g 8 b) : Lg n (P + 1) G := by
  obtain ⟨l1, l2, l3, l4, l5, l6, l7, l8, l9, la1, la2, la3, la4⟩ := h
  have e1 := l1 c h1 h2
  refine ⟨fun c' a1 a2 => ?_, fun p a1 a2 => ?_, fun p q a1 a2 a3 a4 => ?_, ?_, fun p a1 a2 => ?_, fun c' a1 a2 => ?_, fun c' b a1 a2 a3 => ?_, fun c' a1 a2 => ?_, fun c' a1 a2 => ?_, fun c' => ?_, fun p => ?_, fun c' a1 => ?_, fun p a1 => ?_⟩
  · have x1 := l1 c' a1 a2
    clear l1 l2 l3 l4 l5 l6 l7 l8 l9 la1 la2 la3 la4
    try simp only [q0, q1, q2, q3, q4, q5, q6, q7, q8]
    clear q0 q1 q2 q3 q4 q5 q6 q7 q8
    grind
  · have x1 := l2 p a1
    have x2 : 1 ≤ c ∧ c ≤ n := ⟨h1, h2⟩
    clear l1 l2 l3 l4 l5 l6 l7 l8 l9 la1 la2 la3 la4
    try simp only [q0, q1, q2, q3, q4, q5, q6, q7, q8]
    clear q0 q1 q2 q3 q4 q5 q6 q7 q8
    grind
  · have x1 := fun (z1 : p ≤ P) (z2 : q ≤ P) => l3 p q a1 z1 a3 z2
    have x2 := l2 p a1
    have x3 := l2 q a3
    clear l1 l2 l3 l4 l5 l6 l7 l8 l9 la1 la2 la3 la4
    try simp only [q0, q1, q2, q3, q4, q5, q6, q7, q8]
    clear q0 q1 q2 q3 q4 q5 q6 q7 q8
    grind
  · obtain ⟨x1, x2⟩ := l4
    refine ⟨by rw [q6]; omega, fun z => ?_⟩
    rw [q6] at z
    obtain ⟨p, y1, y2, y3⟩ := x2 z
    have y4 := l5 p y1 y2 y3 z
    refine ⟨p, y1, by omega, ?_⟩
    clear l1 l2 l3 l5 l6 l7 l8 l9 la1 la2 la3 la4
    try simp only [q0, q1, q2, q3, q4, q5, q6, q7, q8]
    clear q0 q1 q2 q3 q4 q5 q6 q7 q8
    grind
  · have x1 := fun z => l5 p a1 z
    have x2 := l4.1
    clear l1 l2 l3 l4 l5 l6 l7 l8 l9 la1 la2 la3 la4
    try simp only [q0, q1, q2, q3, q4, q5, q6, q7, q8]
    clear q0 q1 q2 q3 q4 q5 q6 q7 q8
    grind
  · have x1 := l6 c' a1 a2
    have x2 := l5 (g 7 c')
    clear l1 l2 l3 l4 l5 l6 l7 l8 l9 la1 la2 la3 la4
    try simp only [q0, q1, q2, q3, q4, q5, q6, q7, q8]
    clear q0 q1 q2 q3 q4 q5 q6 q7 q8
    grind
  · have x1 := l7 c' b a1 a2 a3
    clear l1 l2 l3 l4 l5 l6 l7 l8 l9 la1 la2 la3 la4
    try simp only [q0, q1, q2, q3, q4, q5, q6, q7, q8]
    clear q0 q1 q2 q3 q4 q5 q6 q7 q8
    grind
  · have x1 := l8 c' a1 a2
    have x2 := l1 c' a1 a2
    clear l1 l2 l3 l4 l5 l6 l7 l8 l9 la1 la2 la3 la4
    try simp only [q0, q1, q2, q3, q4, q5, q6, q7, q8]
    clear q0 q1 q2 q3 q4 q5 q6 q7 q8
    grind
  · have x1 := l9 c' a1 a2
    have x2 := l6 c' a1 a2
    have x3 := l1 c' a1 a2
    clear l1 l2 l3 l4 l5 l6 l7 l8 l9 la1 la2 la3 la4
    try simp only [q0, q1, q2, q3, q4, q5, q6, q7, q8]
    clear q0 q1 q2 q3 q4 q5 q6 q7 q8
    grind
  · have x1 := la1 c'
    clear l1 l2 l3 l4 l5 l6 l7 l8 l9 la1 la2 la3 la4
    try simp only [q0, q1, q2, q3, q4, q5, q6, q7, q8]
    clear q0 q1 q2 q3 q4 q5 q6 q7 q8
    grind
  · have x1 := la2 p
    clear l1 l2 l3 l4 l5 l6 l7 l8 l9 la1 la2 la3 la4
    try simp only [q0, q1, q2, q3, q4, q5, q6, q7, q8]
    clear q0 q1 q2 q3 q4 q5 q6 q7 q8
    grind
  · have x1 := la3 c' a1
    have x2 : 1 ≤ c ∧ c ≤ n := ⟨h1, h2⟩
    clear l1 l2 l3 l4 l5 l6 l7 l8 l9 la1 la2 la3 la4
    try simp only [q0, q1, q2, q3, q4, q5, q6, q7, q8]
    clear q0 q1 q2 q3 q4 q5 q6 q7 q8
    grind
  · have x1 := la4 p
    have x2 := e1.1
    have x3 := la4 0 (Or.inl rfl)
    clear l1 l2 l3 l4 l5 l6 l7 l8 l9 la1 la2 la3 la4
    try simp only [q0, q1, q2, q3, q4, q5, q6, q7, q8]
    clear q0 q1 q2 q3 q4 q5 q6 q7 q8
    grind
theorem Lg_join {n P a b0 p0 m0 : Nat} {g G : Nat → Nat → Nat} (h : Lg n P g) (hp1 : 1 ≤ p0) (hp2 : p0 ≤ P) (hq1 : 1 ≤ m0) (hq2 : m0 ≤ P) (hpo : g 0 (g 1 p0) = p0) (hqo : g 0 (g 1 m0) = m0) (ha : g 2 p0 = a) (hb : g 2 m0 = b0) (ha0 : a ≠ 0) (hb0 : b0 ≠ 0) (q0 : ∀ b, G 0 b = g 0 b) (q1 : ∀ b, G 1 b = g 1 b) (q2 : ∀ b, G 2 b = if g 2 b = b0 then a else g 2 b) (q3 : ∀ b, G 3 b = g 3 b) (q4 : ∀ b, G 4 b = g 4 b) (q5 : ∀ b, G 5 b = g 5 b) (q6 : ∀ b, G 6 b = g 6 b) (q7 : ∀ b, G 7 b = g 7 b) (q8 : ∀ b, G 8 b = g 8 b) : Lg n P G := by
  obtain ⟨l1, l2, l3, l4, l5, l6, l7, l8, l9, la1, la2, la3, la4⟩ := h
  have e6 : g 6 0 ≠ 0 → g 6 0 ≠ a ∧ g 6 0 ≠ b0 := fun z => ⟨fun e => (l5 p0 hp1 hp2 (ha.trans e.symm) z).1 hpo, fun e => (l5 m0 hq1 hq2 (hb.trans e.symm) z).1 hqo⟩
  have eP : a ≤ P := ha ▸ (l2 p0 hp1 hp2).2.2.1
  refine ⟨fun c' a1 a2 => ?_, fun p a1 a2 => ?_, fun p q a1 a2 a3 a4 => ?_, ?_, fun p a1 a2 => ?_, fun c' a1 a2 => ?_, fun c' b a1 a2 a3 => ?_, fun c' a1 a2 => ?_, fun c' a1 a2 => ?_, fun c' => ?_, fun p => ?_, fun c' a1 => ?_, fun p a1 => ?_⟩
  · have x1 := l1 c' a1 a2
    clear l1 l2 l3 l4 l5 l6 l7 l8 l9 la1 la2 la3 la4
    try simp only [q0, q1, q2, q3, q4, q5, q6, q7, q8]
    clear q0 q1 q2 q3 q4 q5 q6 q7 q8
    grind
  · have x1 := l2 p a1 a2
    clear l1 l2 l3 l4 l5 l6 l7 l8 l9 la1 la2 la3 la4
    try simp only [q0, q1, q2, q3, q4, q5, q6, q7, q8]
    clear q0 q1 q2 q3 q4 q5 q6 q7 q8
    grind
  · have x1 := l3 p q a1 a2 a3 a4
    have x2 := l3 p0 p hp1 hp2 a1 a2
    have x3 := l3 m0 p hq1 hq2 a1 a2
    have x4 := l3 p0 q hp1 hp2 a3 a4
    have x5 := l3 m0 q hq1 hq2 a3 a4
    clear l1 l2 l3 l4 l5 l6 l7 l8 l9 la1 la2 la3 la4
    try simp only [q0, q1, q2, q3, q4, q5, q6, q7, q8]
    clear q0 q1 q2 q3 q4 q5 q6 q7 q8
    grind
  · obtain ⟨x1, x2⟩ := l4
    refine ⟨by rw [q6]; omega, fun z => ?_⟩
    rw [q6] at z
    obtain ⟨p, y1, y2, y3⟩ := x2 z
    refine ⟨p, y1, by omega, ?_⟩
    clear l1 l2 l3 l5 l6 l7 l8 l9 la1 la2 la3 la4
    try simp only [q0, q1, q2, q3, q4, q5, q6, q7, q8]
    clear q0 q1 q2 q3 q4 q5 q6 q7 q8
    grind
  · have x1 := l5 p a1 a2
    clear l1 l2 l3 l4 l5 l6 l7 l8 l9 la1 la2 la3 la4
    try simp only [q0, q1, q2, q3, q4, q5, q6, q7, q8]
    clear q0 q1 q2 q3 q4 q5 q6 q7 q8
    grind
  · have x1 := l6 c' a1 a2
    clear l1 l2 l3 l4 l5 l6 l7 l8 l9 la1 la2 la3 la4
    try simp only [q0, q1, q2, q3, q4, q5, q6, q7, q8]
    clear q0 q1 q2 q3 q4 q5 q6 q7 q8
    grind
  · have x1 := l7 c' b a1 a2 a3
    clear l1 l2 l3 l4 l5 l6 l7 l8 l9 la1 la2 la3 la4
    try simp only [q0, q1, q2, q3, q4, q5, q6, q7, q8]
    clear q0 q1 q2 q3 q4 q5 q6 q7 q8
    grind
  · have x1 := l8 c' a1 a2
    clear l1 l2 l3 l4 l5 l6 l7 l8 l9 la1 la2 la3 la4
    try simp only [q0, q1, q2, q3, q4, q5, q6, q7, q8]
    clear q0 q1 q2 q3 q4 q5 q6 q7 q8
    grind
  · have x1 := l9 c' a1 a2
    clear l1 l2 l3 l4 l5 l6 l7 l8 l9 la1 la2 la3 la4
    try simp only [q0, q1, q2, q3, q4, q5, q6, q7, q8]
    clear q0 q1 q2 q3 q4 q5 q6 q7 q8
    grind
  · have x1 := la1 c'
    clear l1 l2 l3 l4 l5 l6 l7 l8 l9 la1 la2 la3 la4
    try simp only [q0, q1, q2, q3, q4, q5, q6, q7, q8]
    clear q0 q1 q2 q3 q4 q5 q6 q7 q8
    grind
  · have x1 := la2 p
    clear l1 l2 l3 l4 l5 l6 l7 l8 l9 la1 la2 la3 la4
    try simp only [q0, q1, q2, q3, q4, q5, q6, q7, q8]
    clear q0 q1 q2 q3 q4 q5 q6 q7 q8
    grind
  · have x1 := la3 c' a1
    clear l1 l2 l3 l4 l5 l6 l7 l8 l9 la1 la2 la3 la4
    try simp only [q0, q1, q2, q3, q4, q5, q6, q7, q8]
    clear q0 q1 q2 q3 q4 q5 q6 q7 q8
    grind
  · have x1 := la4 p a1
    clear l1 l2 l3 l4 l5 l6 l7 l8 l9 la1 la2 la3 la4
    try simp only [q0, q1, q2, q3, q4, q5, q6, q7, q8]
    clear q0 q1 q2 q3 q4 q5 q6 q7 q8
    grind
theorem Lg_wr {n P c p0 : Nat} {g G : Nat → Nat → Nat} (h : Lg n P g) (h1 : 1 ≤ c) (h2 : c ≤ n) (hp : g 0 c = p0) (hp0 : p0 ≠ 0) (hs : g 3 p0 = 1) (q0 : ∀ b, G 0 b = g 0 b) (q1 : ∀ b, G 1 b = g 1 b) (q2 : ∀ b, G 2 b = g 2 b) (q3 : ∀ b, G 3 b = if b = p0 then 2 else g 3 b) (q4 : ∀ b, G 4 b = if b = p0 then 1 - g 5 c else g 4 b) (q5 : ∀ b, G 5 b = g 5 b) (q6 : ∀ b, G 6 b = g 6 b) (q7 : ∀ b, G 7 b = g 7 b) (q8 : ∀ b, G 8 b = if b = 2 * c + (1 - g 5 c) then p0 else g 8 b) : Lg n P G := by
  obtain ⟨l1, l2, l3, l4, l5, l6, l7, l8, l9, la1, la2, la3, la4⟩ := h
  have e1 := l1 c h1 h2
  have e5 := la1 c
  refine ⟨fun c' a1 a2 => ?_, fun p a1 a2 => ?_, fun p q a1 a2 a3 a4 => ?_, ?_, fun p a1 a2 => ?_, fun c' a1 a2 => ?_, fun c' b a1 a2 a3 => ?_, fun c' a1 a2 => ?_, fun c' a1 a2 => ?_, fun c' => ?_, fun p => ?_, fun c' a1 => ?_, fun p a1 => ?_⟩
  · have x1 := l1 c' a1 a2
    clear l1 l2 l3 l4 l5 l6 l7 l8 l9 la1 la2 la3 la4
    try simp only [q0, q1, q2, q3, q4, q5, q6, q7, q8]
    clear q0 q1 q2 q3 q4 q5 q6 q7 q8
    grind
  · have x1 := l2 p a1 a2
    clear l1 l2 l3 l4 l5 l6 l7 l8 l9 la1 la2 la3 la4
    try simp only [q0, q1, q2, q3, q4, q5, q6, q7, q8]
    clear q0 q1 q2 q3 q4 q5 q6 q7 q8
    grind
  · have x1 := l3 p q a1 a2 a3 a4
    clear l1 l2 l3 l4 l5 l6 l7 l8 l9 la1 la2 la3 la4
    try simp only [q0, q1, q2, q3, q4, q5, q6, q7, q8]
    clear q0 q1 q2 q3 q4 q5 q6 q7 q8
    grind
  · obtain ⟨x1, x2⟩ := l4
    refine ⟨by rw [q6]; omega, fun z => ?_⟩
    rw [q6] at z
    obtain ⟨p, y1, y2, y3⟩ := x2 z
    refine ⟨p, y1, by omega, ?_⟩
    clear l1 l2 l3 l5 l6 l7 l8 l9 la1 la2 la3 la4
    try simp only [q0, q1, q2, q3, q4, q5, q6, q7, q8]
    clear q0 q1 q2 q3 q4 q5 q6 q7 q8
    grind
  · have x1 := l5 p a1 a2
    clear l1 l2 l3 l4 l5 l6 l7 l8 l9 la1 la2 la3 la4
    try simp only [q0, q1, q2, q3, q4, q5, q6, q7, q8]
    clear q0 q1 q2 q3 q4 q5 q6 q7 q8
    grind
  · have x1 := l6 c' a1 a2
    clear l1 l2 l3 l4 l5 l6 l7 l8 l9 la1 la2 la3 la4
    try simp only [q0, q1, q2, q3, q4, q5, q6, q7, q8]
    clear q0 q1 q2 q3 q4 q5 q6 q7 q8
    grind
  · have x1 := l7 c' b a1 a2 a3
    clear l1 l2 l3 l4 l5 l6 l7 l8 l9 la1 la2 la3 la4
    try simp only [q0, q1, q2, q3, q4, q5, q6, q7, q8]
    clear q0 q1 q2 q3 q4 q5 q6 q7 q8
    grind
  · have x1 := l8 c' a1 a2
    have x2 := l1 c' a1 a2
    have x3 := la1 c'
    clear l1 l2 l3 l4 l5 l6 l7 l8 l9 la1 la2 la3 la4
    try simp only [q0, q1, q2, q3, q4, q5, q6, q7, q8]
    clear q0 q1 q2 q3 q4 q5 q6 q7 q8
    grind
  · have x1 := l9 c' a1 a2
    have x2 := l6 c' a1 a2
    have x3 := l5 (g 7 c')
    have x4 := la1 c'
    have x5 := la2 (g 7 c')
    have x6 := l1 c' a1 a2
    clear l1 l2 l3 l4 l5 l6 l7 l8 l9 la1 la2 la3 la4
    try simp only [q0, q1, q2, q3, q4, q5, q6, q7, q8]
    clear q0 q1 q2 q3 q4 q5 q6 q7 q8
    grind
  · have x1 := la1 c'
    clear l1 l2 l3 l4 l5 l6 l7 l8 l9 la1 la2 la3 la4
    try simp only [q0, q1, q2, q3, q4, q5, q6, q7, q8]
    clear q0 q1 q2 q3 q4 q5 q6 q7 q8
    grind
  · have x1 := la2 p
    clear l1 l2 l3 l4 l5 l6 l7 l8 l9 la1 la2 la3 la4
    try simp only [q0, q1, q2, q3, q4, q5, q6, q7, q8]
    clear q0 q1 q2 q3 q4 q5 q6 q7 q8
    grind
  · have x1 := la3 c' a1
    clear l1 l2 l3 l4 l5 l6 l7 l8 l9 la1 la2 la3 la4
    try simp only [q0, q1, q2, q3, q4, q5, q6, q7, q8]
    clear q0 q1 q2 q3 q4 q5 q6 q7 q8
    grind
  · have x1 := la4 p a1
    clear l1 l2 l3 l4 l5 l6 l7 l8 l9 la1 la2 la3 la4
    try simp only [q0, q1, q2, q3, q4, q5, q6, q7, q8]
    clear q0 q1 q2 q3 q4 q5 q6 q7 q8
    grind
theorem Lg_sw {n P c p0 : Nat} {g G : Nat → Nat → Nat} (h : Lg n P g) (h1 : 1 ≤ c) (h2 : c ≤ n) (hp : g 0 c = p0) (hp0 : p0 ≠ 0) (hs : g 3 p0 = 2) (q0 : ∀ b, G 0 b = g 0 b) (q1 : ∀ b, G 1 b = g 1 b) (q2 : ∀ b, G 2 b = g 2 b) (q3 : ∀ b, G 3 b = if b = p0 then 3 else g 3 b) (q4 : ∀ b, G 4 b = g 4 b) (q5 : ∀ b, G 5 b = if b = c then 1 - g 5 c else g 5 b) (q6 : ∀ b, G 6 b = g 6 b) (q7 : ∀ b, G 7 b = g 7 b) (q8 : ∀ b, G 8 b = g 8 b) : Lg n P G := by
  obtain ⟨l1, l2, l3, l4, l5, l6, l7, l8, l9, la1, la2, la3, la4⟩ := h
  have e1 := l1 c h1 h2
  have e5 := la1 c
  have e8 := l8 c h1 h2
  refine ⟨fun c' a1 a2 => ?_, fun p a1 a2 => ?_, fun p q a1 a2 a3 a4 => ?_, ?_, fun p a1 a2 => ?_, fun c' a1 a2 => ?_, fun c' b a1 a2 a3 => ?_, fun c' a1 a2 => ?_, fun c' a1 a2 => ?_, fun c' => ?_, fun p => ?_, fun c' a1 => ?_, fun p a1 => ?_⟩
  · have x1 := l1 c' a1 a2
    clear l1 l2 l3 l4 l5 l6 l7 l8 l9 la1 la2 la3 la4
    try simp only [q0, q1, q2, q3, q4, q5, q6, q7, q8]
    clear q0 q1 q2 q3 q4 q5 q6 q7 q8
    grind
  · have x1 := l2 p a1 a2
    clear l1 l2 l3 l4 l5 l6 l7 l8 l9 la1 la2 la3 la4
    try simp only [q0, q1, q2, q3, q4, q5, q6, q7, q8]
    clear q0 q1 q2 q3 q4 q5 q6 q7 q8
    grind
  · have x1 := l3 p q a1 a2 a3 a4
    clear l1 l2 l3 l4 l5 l6 l7 l8 l9 la1 la2 la3 la4
    try simp only [q0, q1, q2, q3, q4, q5, q6, q7, q8]
    clear q0 q1 q2 q3 q4 q5 q6 q7 q8
    grind
  · obtain ⟨x1, x2⟩ := l4
    refine ⟨by rw [q6]; omega, fun z => ?_⟩
    rw [q6] at z
    obtain ⟨p, y1, y2, y3⟩ := x2 z
    refine ⟨p, y1, by omega, ?_⟩
    clear l1 l2 l3 l5 l6 l7 l8 l9 la1 la2 la3 la4
    try simp only [q0, q1, q2, q3, q4, q5, q6, q7, q8]
    clear q0 q1 q2 q3 q4 q5 q6 q7 q8
    grind
  · have x1 := l5 p a1 a2
    clear l1 l2 l3 l4 l5 l6 l7 l8 l9 la1 la2 la3 la4
    try simp only [q0, q1, q2, q3, q4, q5, q6, q7, q8]
    clear q0 q1 q2 q3 q4 q5 q6 q7 q8
    grind
  · have x1 := l6 c' a1 a2
    clear l1 l2 l3 l4 l5 l6 l7 l8 l9 la1 la2 la3 la4
    try simp only [q0, q1, q2, q3, q4, q5, q6, q7, q8]
    clear q0 q1 q2 q3 q4 q5 q6 q7 q8
    grind
  · have x1 := l7 c' b a1 a2 a3
    clear l1 l2 l3 l4 l5 l6 l7 l8 l9 la1 la2 la3 la4
    try simp only [q0, q1, q2, q3, q4, q5, q6, q7, q8]
    clear q0 q1 q2 q3 q4 q5 q6 q7 q8
    grind
  · have x1 := l8 c' a1 a2
    have x2 := l1 c' a1 a2
    have x3 := la1 c'
    clear l1 l2 l3 l4 l5 l6 l7 l8 l9 la1 la2 la3 la4
    try simp only [q0, q1, q2, q3, q4, q5, q6, q7, q8]
    clear q0 q1 q2 q3 q4 q5 q6 q7 q8
    grind
  · have x1 := l9 c' a1 a2
    have x6 := l1 c' a1 a2
    clear l1 l2 l3 l4 l5 l6 l7 l8 l9 la1 la2 la3 la4
    try simp only [q0, q1, q2, q3, q4, q5, q6, q7, q8]
    clear q0 q1 q2 q3 q4 q5 q6 q7 q8
    grind
  · have x1 := la1 c'
    clear l1 l2 l3 l4 l5 l6 l7 l8 l9 la1 la2 la3 la4
    try simp only [q0, q1, q2, q3, q4, q5, q6, q7, q8]
    clear q0 q1 q2 q3 q4 q5 q6 q7 q8
    grind
  · have x1 := la2 p
    clear l1 l2 l3 l4 l5 l6 l7 l8 l9 la1 la2 la3 la4
    try simp only [q0, q1, q2, q3, q4, q5, q6, q7, q8]
    clear q0 q1 q2 q3 q4 q5 q6 q7 q8
    grind
  · have x1 := la3 c' a1
    clear l1 l2 l3 l4 l5 l6 l7 l8 l9 la1 la2 la3 la4
    try simp only [q0, q1, q2, q3, q4, q5, q6, q7, q8]
    clear q0 q1 q2 q3 q4 q5 q6 q7 q8
    grind
  · have x1 := la4 p a1
    clear l1 l2 l3 l4 l5 l6 l7 l8 l9 la1 la2 la3 la4
    try simp only [q0, q1, q2, q3, q4, q5, q6, q7, q8]
    clear q0 q1 q2 q3 q4 q5 q6 q7 q8
    grind
theorem Lg_fin {n P s p0 : Nat} {g G : Nat → Nat → Nat} (h : Lg n P g) (hp1 : 1 ≤ p0) (hp2 : p0 ≤ P) (hpo : g 0 (g 1 p0) = p0) (hps : g 2 p0 = s) (hs0 : s ≠ 0) (h3 : ∀ p, 1 ≤ p → p ≤ P → g 2 p = s → g 3 p = 3) (q0 : ∀ b, G 0 b = if g 0 b ≠ 0 ∧ g 2 (g 0 b) = s then 0 else g 0 b) (q1 : ∀ b, G 1 b = g 1 b) (q2 : ∀ b, G 2 b = g 2 b) (q3 : ∀ b, G 3 b = g 3 b) (q4 : ∀ b, G 4 b = g 4 b) (q5 : ∀ b, G 5 b = g 5 b) (q6 : ∀ b, G 6 b = s) (q7 : ∀ b, G 7 b = if g 0 b ≠ 0 ∧ g 2 (g 0 b) = s then g 0 b else 0) (q8 : ∀ b, G 8 b = g 8 b) : Lg n P G := by
  obtain ⟨l1, l2, l3, l4, l5, l6, l7, l8, l9, la1, la2, la3, la4⟩ := h
  refine ⟨fun c' a1 a2 => ?_, fun p a1 a2 => ?_, fun p q a1 a2 a3 a4 => ?_, ?_, fun p a1 a2 => ?_, fun c' a1 a2 => ?_, fun c' b a1 a2 a3 => ?_, fun c' a1 a2 => ?_, fun c' a1 a2 => ?_, fun c' => ?_, fun p => ?_, fun c' a1 => ?_, fun p a1 => ?_⟩
  · have x1 := l1 c' a1 a2
    clear h3
    clear l1 l2 l3 l4 l5 l6 l7 l8 l9 la1 la2 la3 la4
    try simp only [q0, q1, q2, q3, q4, q5, q6, q7, q8]
    clear q0 q1 q2 q3 q4 q5 q6 q7 q8
    grind
  · have x1 := l2 p a1 a2
    clear h3
    clear l1 l2 l3 l4 l5 l6 l7 l8 l9 la1 la2 la3 la4
    try simp only [q0, q1, q2, q3, q4, q5, q6, q7, q8]
    clear q0 q1 q2 q3 q4 q5 q6 q7 q8
    grind
  · have x1 := l3 p q a1 a2 a3 a4
    clear h3
    clear l1 l2 l3 l4 l5 l6 l7 l8 l9 la1 la2 la3 la4
    try simp only [q0, q1, q2, q3, q4, q5, q6, q7, q8]
    clear q0 q1 q2 q3 q4 q5 q6 q7 q8
    grind
  · have x2 := l2 p0 hp1 hp2
    clear h3
    refine ⟨by rw [q6]; omega, fun z => ⟨p0, hp1, hp2, by rw [q2, q6, hps]⟩⟩
  · have x1 := l3 p0 p hp1 hp2 a1 a2
    clear h3
    clear l1 l2 l3 l4 l5 l6 l7 l8 l9 la1 la2 la3 la4
    try simp only [q0, q1, q2, q3, q4, q5, q6, q7, q8]
    clear q0 q1 q2 q3 q4 q5 q6 q7 q8
    grind
  · have x1 := l1 c' a1 a2
    clear h3
    clear l1 l2 l3 l4 l5 l6 l7 l8 l9 la1 la2 la3 la4
    try simp only [q0, q1, q2, q3, q4, q5, q6, q7, q8]
    clear q0 q1 q2 q3 q4 q5 q6 q7 q8
    grind
  · have x1 := l7 c' b a1 a2 a3
    clear h3
    clear l1 l2 l3 l4 l5 l6 l7 l8 l9 la1 la2 la3 la4
    try simp only [q0, q1, q2, q3, q4, q5, q6, q7, q8]
    clear q0 q1 q2 q3 q4 q5 q6 q7 q8
    grind
  · have x1 := l8 c' a1 a2
    clear h3
    clear l1 l2 l3 l4 l5 l6 l7 l8 l9 la1 la2 la3 la4
    try simp only [q0, q1, q2, q3, q4, q5, q6, q7, q8]
    clear q0 q1 q2 q3 q4 q5 q6 q7 q8
    grind
  · have x1 := l8 c' a1 a2
    have x2 := h3 (g 0 c')
    have x3 := l1 c' a1 a2
    clear h3
    clear l1 l2 l3 l4 l5 l6 l7 l8 l9 la1 la2 la3 la4
    try simp only [q0, q1, q2, q3, q4, q5, q6, q7, q8]
    clear q0 q1 q2 q3 q4 q5 q6 q7 q8
    grind
  · have x1 := la1 c'
    clear h3
    clear l1 l2 l3 l4 l5 l6 l7 l8 l9 la1 la2 la3 la4
    try simp only [q0, q1, q2, q3, q4, q5, q6, q7, q8]
    clear q0 q1 q2 q3 q4 q5 q6 q7 q8
    grind
  · have x1 := la2 p
    clear h3
    clear l1 l2 l3 l4 l5 l6 l7 l8 l9 la1 la2 la3 la4
    try simp only [q0, q1, q2, q3, q4, q5, q6, q7, q8]
    clear q0 q1 q2 q3 q4 q5 q6 q7 q8
    grind
  · have x1 := la3 c' a1
    clear h3
    clear l1 l2 l3 l4 l5 l6 l7 l8 l9 la1 la2 la3 la4
    try simp only [q0, q1, q2, q3, q4, q5, q6, q7, q8]
    clear q0 q1 q2 q3 q4 q5 q6 q7 q8
    grind
  · have x1 := la4 p a1
    clear h3
    clear l1 l2 l3 l4 l5 l6 l7 l8 l9 la1 la2 la3 la4
    try simp only [q0, q1, q2, q3, q4, q5, q6, q7, q8]
    clear q0 q1 q2 q3 q4 q5 q6 q7 q8
    grind
theorem Lg_back {n P : Nat} {g G : Nat → Nat → Nat} (h : Lg n P g) (h3 : ∀ c, 1 ≤ c → c ≤ n → g 7 c ≠ 0 → g 0 c = 0) (q0 : ∀ b, G 0 b = g 0 b) (q1 : ∀ b, G 1 b = g 1 b) (q2 : ∀ b, G 2 b = g 2 b) (q3 : ∀ b, G 3 b = g 3 b) (q4 : ∀ b, G 4 b = g 4 b) (q5 : ∀ b, G 5 b = if g 7 b = 0 then g 5 b else 1 - g 5 b) (q6 : ∀ b, G 6 b = 0) (q7 : ∀ b, G 7 b = 0) (q8 : ∀ b, G 8 b = g 8 b) : Lg n P G := by
  obtain ⟨l1, l2, l3, l4, l5, l6, l7, l8, l9, la1, la2, la3, la4⟩ := h
  refine ⟨fun c' a1 a2 => ?_, fun p a1 a2 => ?_, fun p q a1 a2 a3 a4 => ?_, ?_, fun p a1 a2 => ?_, fun c' a1 a2 => ?_, fun c' b a1 a2 a3 => ?_, fun c' a1 a2 => ?_, fun c' a1 a2 => ?_, fun c' => ?_, fun p => ?_, fun c' a1 => ?_, fun p a1 => ?_⟩
  · have x1 := l1 c' a1 a2
    clear h3
    clear l1 l2 l3 l4 l5 l6 l7 l8 l9 la1 la2 la3 la4
    try simp only [q0, q1, q2, q3, q4, q5, q6, q7, q8]
    clear q0 q1 q2 q3 q4 q5 q6 q7 q8
    grind
  · have x1 := l2 p a1 a2
    clear h3
    clear l1 l2 l3 l4 l5 l6 l7 l8 l9 la1 la2 la3 la4
    try simp only [q0, q1, q2, q3, q4, q5, q6, q7, q8]
    clear q0 q1 q2 q3 q4 q5 q6 q7 q8
    grind
  · have x1 := l3 p q a1 a2 a3 a4
    clear h3
    clear l1 l2 l3 l4 l5 l6 l7 l8 l9 la1 la2 la3 la4
    try simp only [q0, q1, q2, q3, q4, q5, q6, q7, q8]
    clear q0 q1 q2 q3 q4 q5 q6 q7 q8
    grind
  · clear h3
    exact ⟨by rw [q6]; omega, fun z => absurd (q6 0) z⟩
  · clear h3
    clear l1 l2 l3 l4 l5 l6 l7 l8 l9 la1 la2 la3 la4
    try simp only [q0, q1, q2, q3, q4, q5, q6, q7, q8]
    clear q0 q1 q2 q3 q4 q5 q6 q7 q8
    grind
  · clear h3
    clear l1 l2 l3 l4 l5 l6 l7 l8 l9 la1 la2 la3 la4
    try simp only [q0, q1, q2, q3, q4, q5, q6, q7, q8]
    clear q0 q1 q2 q3 q4 q5 q6 q7 q8
    grind
  · have x1 := l7 c' b a1 a2 a3
    clear h3
    clear l1 l2 l3 l4 l5 l6 l7 l8 l9 la1 la2 la3 la4
    try simp only [q0, q1, q2, q3, q4, q5, q6, q7, q8]
    clear q0 q1 q2 q3 q4 q5 q6 q7 q8
    grind
  · have x1 := l8 c' a1 a2
    have x2 := h3 c' a1 a2
    clear h3
    clear l1 l2 l3 l4 l5 l6 l7 l8 l9 la1 la2 la3 la4
    try simp only [q0, q1, q2, q3, q4, q5, q6, q7, q8]
    clear q0 q1 q2 q3 q4 q5 q6 q7 q8
    grind
  · clear h3
    clear l1 l2 l3 l4 l5 l6 l7 l8 l9 la1 la2 la3 la4
    try simp only [q0, q1, q2, q3, q4, q5, q6, q7, q8]
    clear q0 q1 q2 q3 q4 q5 q6 q7 q8
    grind
  · have x1 := la1 c'
    clear h3
    clear l1 l2 l3 l4 l5 l6 l7 l8 l9 la1 la2 la3 la4
    try simp only [q0, q1, q2, q3, q4, q5, q6, q7, q8]
    clear q0 q1 q2 q3 q4 q5 q6 q7 q8
    grind
  · have x1 := la2 p
    clear h3
    clear l1 l2 l3 l4 l5 l6 l7 l8 l9 la1 la2 la3 la4
    try simp only [q0, q1, q2, q3, q4, q5, q6, q7, q8]
    clear q0 q1 q2 q3 q4 q5 q6 q7 q8
    grind
  · have x1 := la3 c' a1
    clear h3
    clear l1 l2 l3 l4 l5 l6 l7 l8 l9 la1 la2 la3 la4
    try simp only [q0, q1, q2, q3, q4, q5, q6, q7, q8]
    clear q0 q1 q2 q3 q4 q5 q6 q7 q8
    grind
  · have x1 := la4 p a1
    clear h3
    clear l1 l2 l3 l4 l5 l6 l7 l8 l9 la1 la2 la3 la4
    try simp only [q0, q1, q2, q3, q4, q5, q6, q7, q8]
    clear q0 q1 q2 q3 q4 q5 q6 q7 q8
    grind
