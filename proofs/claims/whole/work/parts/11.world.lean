/-! the world: cell k of the class and of the reference lies at B k and holds u k; 0 the reference, 1 .. 28 its arrays, 29 the class's object, 30 its controllers, 31 its octets, 32 the digester, 33 .. 35 its arrays, 36 + 8 i .. 43 + 8 i controller i (itself, banks, bank 0, octets, bank 1, octets, pack, octets) -/
abbrev ww_U : Type := Nat → Nat → Int32
def ww_up (u : ww_U) (k j : Nat) (x : Int32) : ww_U := fun a => if a = k then upd (u k) j x else u a
abbrev ww_cl : List vw_C := [(RX0, TX0, 3), (RX1, TX1, 10), (RX2, TX2, 3), (RX3, TX3, 8), (RX4, TX4, 8), (RX5, TX5, 36)]
abbrev ww_ty (ca : Nat → ClassId) : List (ClassId × FieldType) := [(ca 0, .int), (ca 1, .byte), (ca 2, .boolean), (ca 3, .object RX1), (ca 4, .object RX0)]
def ww_fm (B : Nat → Nat) (f : Nat → Int32) : List Value := [.int (f 0), .int (f 1), .ref (B 1), .ref (B 2), .ref (B 3), .ref (B 4), .ref (B 5), .ref (B 6), .ref (B 7), .ref (B 8), .ref (B 9), .ref (B 10), .int (f 12), .ref (B 11), .ref (B 12), .ref (B 13), .ref (B 14), .ref (B 15), .ref (B 16), .ref (B 17), .ref (B 18), .ref (B 19), .int (f 22), .ref (B 20), .int (f 24), .ref (B 21), .int (f 26), .int (f 27), .int (f 28), .ref (B 22), .ref (B 23), .ref (B 24), .ref (B 25), .ref (B 26), .ref (B 27), .ref (B 28)]
def ww_fu (B : Nat → Nat) (f : Nat → Int32) : List Value := [.ref (B 30), .int (f 1), .int (f 2), .ref (B 31), .int (f 4), .int (f 5), .int (f 6), .ref (B 32)]
def ww_fd (B : Nat → Nat) : List Value := [.ref (B 33), .ref (B 34), .ref (B 35)]
def ww_fc (B : Nat → Nat) (k : Nat) (f : Nat → Int32) : List Value := [.int (f 0), .ref (B (k + 1)), .ref (B (k + 6)), .int (f 3), .int (f 4), .int (f 5), .int (f 6), .int (f 7), .int (f 8), .int (f 9)]
def ww_fb (B : Nat → Nat) (k : Nat) (f : Nat → Int32) : List Value := [.ref (B (k + 1)), .int (f 1), .int (f 2)]
def ww_fp (B : Nat → Nat) (k : Nat) (f : Nat → Int32) : List Value := [.ref (B (k + 1)), .int (f 1), .int (f 2), .int (f 3), .int (f 4), .int (f 5), .int (f 6), .int (f 7)]
def ww_cc (ca : Nat → ClassId) (B : Nat → Nat) (r k : Nat) (f : Nat → Int32) : va_E := match r with
  | 0 => .inr (1, ww_fc B k f)
  | 1 => .inl (ca 4, 2, .inr (.inr (.inr (.inr (fun b => some (B (k + 1 + 2 * b)))))))
  | 2 => .inr (0, ww_fb B k f)
  | 3 => .inl (ca 1, 256, .inl f)
  | 4 => .inr (0, ww_fb B k f)
  | 5 => .inl (ca 1, 256, .inl f)
  | 6 => .inr (3, ww_fp B k f)
  | _ => .inl (ca 1, 256, .inl f)
def ww_tab (ca : Nat → ClassId) (B : Nat → Nat) (n : Nat) (f : Nat → Int32) : List va_E := [.inr (5, ww_fm B f), .inl (ca 0, 9, .inl f), .inl (ca 0, 9, .inl f), .inl (ca 0, 9, .inl f), .inl (ca 0, 9, .inl f), .inl (ca 2, 9, .inl f), .inl (ca 2, 9, .inl f), .inl (ca 0, 9, .inl f), .inl (ca 0, 9, .inl f), .inl (ca 0, 18, .inl f), .inl (ca 0, 4608, .inl f), .inl (ca 0, 61, .inl f), .inl (ca 0, 61, .inl f), .inl (ca 0, 61, .inl f), .inl (ca 0, 61, .inl f), .inl (ca 0, 61, .inl f), .inl (ca 0, 61, .inl f), .inl (ca 0, 61, .inl f), .inl (ca 2, 61, .inl f), .inl (ca 0, 15616, .inl f), .inl (ca 0, 256, .inl f), .inl (ca 0, 32, .inl f), .inl (ca 0, 8, .inl f), .inl (ca 0, 64, .inl f), .inl (ca 0, 12, .inl f), .inl (ca 0, 12, .inl f), .inl (ca 0, 8, .inl f), .inl (ca 0, 64, .inl f), .inl (ca 0, 8, .inl f), .inr (4, ww_fu B f), .inl (ca 3, 8, .inr (.inr (.inr (.inr (fun i => if i < n then some (B (36 + 8 * i)) else none))))), .inl (ca 1, 256, .inl f), .inr (2, ww_fd B), .inl (ca 1, 320, .inl f), .inl (ca 0, 64, .inl f), .inl (ca 0, 8, .inl f)]
def ww_ce (ca : Nat → ClassId) (B : Nat → Nat) (n k : Nat) (f : Nat → Int32) : va_E := ((ww_tab ca B n f)[k]?).getD (ww_cc ca B ((k - 36) % 8) k f)
def ww_l (ca : Nat → ClassId) (B : Nat → Nat) (N n : Nat) (u : ww_U) (X : va_W) : va_W := (List.range N).map (fun k => (B k, ww_ce ca B n k (u k))) ++ X
theorem ww_at {ca : Nat → ClassId} {B : Nat → Nat} {N n : Nat} {u : ww_U} {X : va_W} {k : Nat} (h : k < N) : (ww_l ca B N n u X)[k]? = some (B k, ww_ce ca B n k (u k)) := by
  unfold ww_l
  rw [List.getElem?_append_left (by simpa using h), List.getElem?_map, List.getElem?_range h]
  rfl
theorem ww_ctl {ca : Nat → ClassId} {B : Nat → Nat} {n k : Nat} {f : Nat → Int32} (i c : Nat) (hc : c < 8) (hk : k = 36 + 8 * i + c) : ww_ce ca B n k f = ww_cc ca B c k f := by
  unfold ww_ce
  have h1 : (ww_tab ca B n f)[k]? = none := by
    rw [List.getElem?_eq_none_iff]
    show 36 ≤ k
    omega
  rw [h1]
  have h2 : (k - 36) % 8 = c := by omega
  rw [h2]
  rfl
theorem ww_set {ca : Nat → ClassId} {B : Nat → Nat} {N n : Nat} {u : ww_U} {X : va_W} {k : Nat} (h : k < N) (g : Nat → Int32) : (ww_l ca B N n u X).set k (B k, ww_ce ca B n k g) = ww_l ca B N n (fun a => if a = k then g else u a) X := by
  apply List.ext_getElem?
  intro q
  have hl : k < (ww_l ca B N n u X).length := by unfold ww_l; simp; omega
  by_cases hq : q = k
  · subst hq
    rw [List.getElem?_set_self hl, ww_at h]
    simp
  · rw [List.getElem?_set_ne (Ne.symm hq)]
    by_cases hN : q < N
    · rw [ww_at hN, ww_at hN]
      simp [hq]
    · unfold ww_l
      rw [List.getElem?_append_right (by simp; omega), List.getElem?_append_right (by simp; omega)]
      simp
theorem ww_set' {ca : Nat → ClassId} {B : Nat → Nat} {N n : Nat} {u : ww_U} {X : va_W} {k : Nat} (h : k < N) {j : Nat} {x : Int32} {e : va_E} (he : ww_ce ca B n k (upd (u k) j x) = e) : (ww_l ca B N n u X).set k (B k, e) = ww_l ca B N n (ww_up u k j x) X := by
  rw [← he]
  exact ww_set h _
def ww_A (B : Nat → Nat) (N : Nat) (X : va_W) (sz : Nat) : Nat → Prop := fun q => (∃ k, k < N ∧ q = B k) ∨ (∃ (k : Nat) (e : va_E), X[k]? = some (q, e)) ∨ sz ≤ q
theorem ww_A_in {ca : Nat → ClassId} {B : Nat → Nat} {N n : Nat} {u : ww_U} {X : va_W} {sz q : Nat} {A : Nat → Prop} (hD : va_D A (ww_l ca B N n u X)) (hA : ∀ q, sz ≤ q → A q) (h : ww_A B N X sz q) : A q := by
  rcases h with ⟨k, h1, rfl⟩ | ⟨k, e, h1⟩ | h
  · exact hD.2 k _ (ww_at h1)
  · have h2 : (ww_l ca B N n u X)[N + k]? = some (q, e) := by
      unfold ww_l
      rw [List.getElem?_append_right (by simp)]
      simpa using h1
    exact hD.2 _ _ h2
  · exact hA q h
theorem ww_D_self {ca : Nat → ClassId} {B : Nat → Nat} {N n : Nat} {u : ww_U} {X : va_W} {sz : Nat} {A : Nat → Prop} (hD : va_D A (ww_l ca B N n u X)) : va_D (ww_A B N X sz) (ww_l ca B N n u X) := by
  refine ⟨hD.1, fun k q hk => ?_⟩
  by_cases hN : k < N
  · rw [ww_at hN] at hk
    cases hk
    exact Or.inl ⟨k, hN, rfl⟩
  · unfold ww_l at hk
    rw [List.getElem?_append_right (by simp; omega)] at hk
    obtain ⟨a, e⟩ := q
    exact Or.inr (Or.inl ⟨_, e, hk⟩)
def ww_sq (j : Nat) : Int32 := ([0x6a09e667, 0xbb67ae85, 0x3c6ef372, 0xa54ff53a, 0x510e527f, 0x9b05688c, 0x1f83d9ab, 0x5be0cd19] : List Int32).getD j 0
def ww_cu (j : Nat) : Int32 := ([0x428a2f98, 0x71374491, 0xb5c0fbcf, 0xe9b5dba5, 0x3956c25b, 0x59f111f1, 0x923f82a4, 0xab1c5ed5,
  0xd807aa98, 0x12835b01, 0x243185be, 0x550c7dc3, 0x72be5d74, 0x80deb1fe, 0x9bdc06a7, 0xc19bf174,
  0xe49b69c1, 0xefbe4786, 0x0fc19dc6, 0x240ca1cc, 0x2de92c6f, 0x4a7484aa, 0x5cb0a9dc, 0x76f988da,
  0x983e5152, 0xa831c66d, 0xb00327c8, 0xbf597fc7, 0xc6e00bf3, 0xd5a79147, 0x06ca6351, 0x14292967,
  0x27b70a85, 0x2e1b2138, 0x4d2c6dfc, 0x53380d13, 0x650a7354, 0x766a0abb, 0x81c2c92e, 0x92722c85,
  0xa2bfe8a1, 0xa81a664b, 0xc24b8b70, 0xc76c51a3, 0xd192e819, 0xd6990624, 0xf40e3585, 0x106aa070,
  0x19a4c116, 0x1e376c08, 0x2748774c, 0x34b0bcb5, 0x391c0cb3, 0x4ed8aa4a, 0x5b9cca4f, 0x682e6ff3,
  0x748f82ee, 0x78a5636f, 0x84c87814, 0x8cc70208, 0x90befffa, 0xa4506ceb, 0xbef9a3f7, 0xc67178f2] : List Int32).getD j 0
/-- the two written-out arrays of the digester -/
def ww_St (A : Nat → Prop) (U : State) (H : Heap) : Prop := ∃ t1 t2 : Nat, (va_Z RX2 "SQUARE_ROOTS" "[I" (.ref t1) A U H ∧ va_T .int t1 8 (fun j => .int (ww_sq j)) A U H) ∧ va_Z RX2 "CUBE_ROOTS" "[I" (.ref t2) A U H ∧ va_T .int t2 64 (fun j => .int (ww_cu j)) A U H
theorem ww_St.moved {A : Nat → Prop} {u U : State} {H : Heap} (hvm : u.vm.Alike U.vm) (h : ww_St A u H) : ww_St A U H := by
  obtain ⟨t1, t2, ⟨h1, h2⟩, h3, h4⟩ := h
  exact ⟨t1, t2, ⟨h1.moved hvm, h2.moved hvm⟩, h3.moved hvm, h4.moved hvm⟩
theorem ww_St.kept {A : Nat → Prop} {U : State} {H H1 : Heap} (h : ww_St A U H) (hq : ∀ a : Nat, a < H.size → ¬ A a → H1[a]? = H[a]?) : ww_St A U H1 := by
  obtain ⟨t1, t2, ⟨h1, h2⟩, h3, h4⟩ := h
  exact ⟨t1, t2, ⟨h1.kept hq, h2.kept hq⟩, h3.kept hq, h4.kept hq⟩
theorem ww_St.narrow {A B : Nat → Prop} {U : State} {H : Heap} (h : ww_St A U H) (hAB : ∀ q, B q → A q) : ww_St B U H := by
  obtain ⟨t1, t2, ⟨h1, h2⟩, h3, h4⟩ := h
  exact ⟨t1, t2, ⟨h1.narrow hAB, h2.narrow hAB⟩, h3.narrow hAB, h4.narrow hAB⟩
/-- the world at a state -/
def ww_Wd (D : va_G) (ca : Nat → ClassId) (B : Nat → Nat) (N n : Nat) (u : ww_U) (X : va_W) (A : Nat → Prop) (U : State) : Prop := va_P D ww_cl (ww_l ca B N n u X) U.heap ∧ va_K D ww_cl (ww_ty ca) U ∧ va_D A (ww_l ca B N n u X) ∧ ww_St A U U.heap
/-- the world now, inside a method -/
def ww_N (D : va_G) (ca : Nat → ClassId) (B : Nat → Nat) (N n : Nat) (u : ww_U) (X : va_W) (A : Nat → Prop) (H0 H : Heap) (locs : List Loc) : Prop := va_P D ww_cl (ww_l ca B N n u X) H ∧ va_D A (ww_l ca B N n u X) ∧ va_S A H0 H locs
/-- what stays inside a method -/
def ww_C (D : va_G) (ca : Nat → ClassId) (own : String) (cc : ByteArray) (nL : Nat) (Ts : List Cond) (ret : Option FieldType) (A : Nat → Prop) (p : Program) (s : State) (m : MethodId) (args : Array Value) (meth : Method) (c : Code) : Prop :=
  CallFix p m c cc nL s args Ts own ∧ meth.sig.returnType = ret ∧ meth.locks = false ∧ va_K D ww_cl (ww_ty ca) s ∧ (∀ q, s.heap.size ≤ q → A q) ∧ ww_St A s s.heap
def ww_Q (D : va_G) (ca : Nat → ClassId) (B : Nat → Nat) (N n : Nat) (X : va_W) (sz : Nat) (r : Option Value) (u' : ww_U) : Array Value → State → Outcome → State → Prop := fun _ st oc t => (oc = .returned r ∧ ww_Wd D ca B N n u' X (ww_A B N X sz) t) ∧ va_F (ww_A B N X sz) st t
/-- a contract: from the world u with the arguments av the method answers r and leaves the world u' -/
def ww_M (l : Launch) (y : MethodName) (ws : List Cond) (rm : Room) (D : va_G) (ca : Nat → ClassId) (B : Nat → Nat) (N n : Nat) (X : va_W) (u : ww_U) (av : List Value) (r : Option Value) (u' : ww_U) : Prop :=
  ∀ sz : Nat, Met l y ws rm (va_Pc av (fun U => U.heap.size = sz ∧ ww_Wd D ca B N n u X (ww_A B N X sz) U)) (ww_Q D ca B N n X sz r u') 0 0 (ww_A B N X sz)
/-- a class's words and table in a method's words -/
def ww_K (Ts : List Cond) (Cn : String) (T : u_T) (NN : Nat) (ty0 : Nat → FieldType) : Prop := (∀ w ∈ u_ws Cn T NN, w ∈ Ts) ∧ (∀ k, k < NN → parseFieldDescriptor (T k).2.2.1 = some (ty0 k)) ∧ ∀ a, a < NN → ∀ b, b < NN → a ≠ b → (T a).2.1 ≠ (T b).2.1
theorem ww_met {l : Launch} {y : MethodName} {ws ws' : List Cond} {rm : Room} {D : va_G} {ca : Nat → ClassId} {B : Nat → Nat} {N n : Nat} {X : va_W} {u : ww_U} {av : List Value} {r : Option Value} {u' : ww_U} {cc : ByteArray} {maxL : Nat} {ret : Option FieldType}
    (hy : plainName y.cls = true) (hw : ws = Cond.code y cc maxL ret :: ws') (hlen : (lg_sl av).length ≤ maxL)
    (body : ∀ (p : Program) (e : Env) (s : State) (m : MethodId) (args : Array Value) (below : List Frame) (meth : Method) (c : Code), ww_C D ca y.cls cc maxL ws ret (ww_A B N X s.heap.size) p s m args meth c → ww_N D ca B N n u X (ww_A B N X s.heap.size) s.heap s.heap [] → ∀ ls : Array Slot, lv_has ls maxL (lv_args 0 av) →
      W p l e (headSpec ws rm).room s m args below meth c s.heap [] 0 0 (MQ below (ww_Q D ca B N n X s.heap.size r u') args s 0 0 (ww_A B N X s.heap.size)) (F0 m 0 ls [])) : ww_M l y ws rm D ca B N n X u av r u' := by
  intro sz
  refine Met.ofW (cc := cc) (maxL := maxL) (ret := ret) hy hw ?_
  intro p e s m args below meth c s₁ Bd hml hv
  obtain ⟨rfl, hsz, hP, hK, hD, hSt⟩ := hv
  subst hsz
  have hl := lv_entry av (n := maxL) hlen
  rw [lg_entry_eq]
  generalize (lg_sl av ++ List.replicate (maxL - (lg_sl av).length) Slot.unset).toArray = ls at hl ⊢
  exact body p e s m _ below meth c ⟨⟨Bd.exec, Bd.bytes, hml, findClass_of_methodNamed Bd.named, atoms_spec (ws := ws) Bd.pre⟩, Bd.returns, Bd.notSynchronized, hK, fun q h => Or.inr (Or.inr h), hSt⟩ ⟨hP, hD, va_S.rf⟩ ls hl
section WR
variable {p : Program} {l : Launch} {e : Env} {R : Room} {s : State} {m : MethodId} {args : Array Value} {below : List Frame} {meth : Method} {c : Code} {H : Heap} {locs : List Loc} {cells slots : Nat} {Q : State → Prop}
variable {D : va_G} {ca : Nat → ClassId} {own : String} {cc : ByteArray} {nL : Nat} {Ts : List Cond} {ret : Option FieldType} {A : Nat → Prop} {B : Nat → Nat} {N n : Nat} {u : ww_U} {X : va_W} {pc : Nat} {ls : Array Slot} {rest : List Value}
theorem rr_get (C : ww_C D ca own cc nL Ts ret A p s m args meth c) (hN : ww_N D ca B N n u X A s.heap H locs) (k : Nat) (hk : k < N) {ci NN : Nat} {fs : List Value} {Cn : String} {T : u_T} {ty0 : Nat → FieldType} (hce : ww_ce ca B n k (u k) = .inr (ci, fs)) (hc : ww_cl[ci]? = some (Cn, T, NN)) (hw : ww_K Ts Cn T NN ty0) (j : Nat) (hj : j < NN) {index : Nat}
    (hlink : Cond.fieldLink own index (T j).1 (T j).2.1 (T j).2.2.1 ∈ Ts) {v : Value} (hv : fs[j]? = some v) (hdg : decode cc pc = .ok (.getfield index, 3))
    (kk : W p l e R s m args below meth c H locs cells slots Q (F0 m (pc + 3) ls (v :: rest))) : W p l e R s m args below meth c H locs cells slots Q (F0 m pc ls (.ref (B k) :: rest)) := by
  obtain ⟨⟨hx, hb, hml, hown, hts⟩, hr, hlk, hK, hA, hSt⟩ := C
  exact va_get hx hb hts hw.1 hown hK hN.1 k ((ww_at hk).trans (by rw [hce])) hc j hj (hts _ hlink) (fun _ h => h) hv hdg kk
theorem rr_put (C : ww_C D ca own cc nL Ts ret A p s m args meth c) (hN : ww_N D ca B N n u X A s.heap H locs) (k : Nat) (hk : k < N) {ci NN : Nat} {fs : List Value} {Cn : String} {T : u_T} {ty0 : Nat → FieldType} (hce : ww_ce ca B n k (u k) = .inr (ci, fs)) (hc : ww_cl[ci]? = some (Cn, T, NN)) (hw : ww_K Ts Cn T NN ty0) (j : Nat) (hj : j < NN) {index : Nat}
    (hlink : Cond.fieldLink own index (T j).1 (T j).2.1 (T j).2.2.1 ∈ Ts) (hfin : (T j).2.2.2 = false) {x : Int32} (hn : narrow (ty0 j) (.int x) = .int x) (hfit : fits (ty0 j) (.int x) = true) (hl : j < fs.length)
    (hset : ww_ce ca B n k (upd (u k) j x) = .inr (ci, fs.set j (.int x))) (hdg : decode cc pc = .ok (.putfield index, 3))
    (kk : ∀ u1 : ww_U, u1 = ww_up u k j x → ∀ (H1 : Heap) (locs1 : List Loc), ww_N D ca B N n u1 X A s.heap H1 locs1 → W p l e R s m args below meth c H1 locs1 cells slots Q (F0 m (pc + 3) ls rest)) : W p l e R s m args below meth c H locs cells slots Q (F0 m pc ls (.int x :: .ref (B k) :: rest)) := by
  obtain ⟨⟨hx, hb, hml, hown, hts⟩, hr, hlk, hK, hA, hSt⟩ := C
  refine va_put hx hb hts hw.1 ty0 hw.2.1 hw.2.2 hown hK hN.1 hN.2.1 hN.2.2 k ((ww_at hk).trans (by rw [hce])) hc j hj (hts _ hlink) (fun _ h => h) hfin (hw.2.1 j hj) hn hfit hl hdg (fun H1 locs1 hP hD hS => ?_)
  rw [ww_set' hk hset] at hP hD
  exact kk _ rfl H1 locs1 ⟨hP, hD, hS⟩
theorem ww_ix {i : Int32} {j len : Nat} (hj : j < len) (hij : i = nI j) (hl : len < 2 ^ 31) : vp_in i len ∧ i.toNatClampNeg = j := by
  subst hij
  exact ⟨vp_in_nI hj hl, nI_clamp (by omega)⟩
theorem rr_iald (C : ww_C D ca own cc nL Ts ret A p s m args meth c) (hN : ww_N D ca B N n u X A s.heap H locs) (k : Nat) (hk : k < N) {len : Nat} (hce : ww_ce ca B n k (u k) = .inl (ca 0, len, .inl (u k))) (hl : len < 2 ^ 31) {i : Int32} (j : Nat) (hj : j < len) (hij : i = nI j) (hdg : decode cc pc = .ok (.iaload, 1))
    (kk : W p l e R s m args below meth c H locs cells slots Q (F0 m (pc + 1) ls (.int (u k j) :: rest))) : W p l e R s m args below meth c H locs cells slots Q (F0 m pc ls (.int i :: .ref (B k) :: rest)) := by
  obtain ⟨⟨hx, hb, hml, hown, hts⟩, hr, hlk, hK, hA, hSt⟩ := C
  obtain ⟨h1, h2⟩ := ww_ix hj hij hl
  refine va_iald hx hb hK hN.1 k 0 ((ww_at hk).trans (by rw [hce])) rfl h1 hdg ?_
  rw [h2]
  exact kk
theorem rr_bald (C : ww_C D ca own cc nL Ts ret A p s m args meth c) (hN : ww_N D ca B N n u X A s.heap H locs) (k : Nat) (hk : k < N) {len : Nat} (hce : ww_ce ca B n k (u k) = .inl (ca 1, len, .inl (u k))) (hl : len < 2 ^ 31) {i : Int32} (j : Nat) (hj : j < len) (hij : i = nI j) (hdg : decode cc pc = .ok (.baload, 1))
    (kk : W p l e R s m args below meth c H locs cells slots Q (F0 m (pc + 1) ls (.int (u k j) :: rest))) : W p l e R s m args below meth c H locs cells slots Q (F0 m pc ls (.int i :: .ref (B k) :: rest)) := by
  obtain ⟨⟨hx, hb, hml, hown, hts⟩, hr, hlk, hK, hA, hSt⟩ := C
  obtain ⟨h1, h2⟩ := ww_ix hj hij hl
  refine va_bald hx hb hK hN.1 k 1 ((ww_at hk).trans (by rw [hce])) rfl h1 hdg ?_
  rw [h2]
  exact kk
theorem rr_zald (C : ww_C D ca own cc nL Ts ret A p s m args meth c) (hN : ww_N D ca B N n u X A s.heap H locs) (k : Nat) (hk : k < N) {len : Nat} (hce : ww_ce ca B n k (u k) = .inl (ca 2, len, .inl (u k))) (hl : len < 2 ^ 31) {i : Int32} (j : Nat) (hj : j < len) (hij : i = nI j) (hdg : decode cc pc = .ok (.baload, 1))
    (kk : W p l e R s m args below meth c H locs cells slots Q (F0 m (pc + 1) ls (.int (u k j) :: rest))) : W p l e R s m args below meth c H locs cells slots Q (F0 m pc ls (.int i :: .ref (B k) :: rest)) := by
  obtain ⟨⟨hx, hb, hml, hown, hts⟩, hr, hlk, hK, hA, hSt⟩ := C
  obtain ⟨h1, h2⟩ := ww_ix hj hij hl
  refine va_zald hx hb hK hN.1 k 2 ((ww_at hk).trans (by rw [hce])) rfl h1 hdg ?_
  rw [h2]
  exact kk
theorem rr_iast (C : ww_C D ca own cc nL Ts ret A p s m args meth c) (hN : ww_N D ca B N n u X A s.heap H locs) (k : Nat) (hk : k < N) {len : Nat} (hce : ∀ f, ww_ce ca B n k f = .inl (ca 0, len, .inl f)) (hl : len < 2 ^ 31) {i x : Int32} (j : Nat) (hj : j < len) (hij : i = nI j) (hdg : decode cc pc = .ok (.iastore, 1))
    (kk : ∀ u1 : ww_U, u1 = ww_up u k j x → ∀ (H1 : Heap) (locs1 : List Loc), ww_N D ca B N n u1 X A s.heap H1 locs1 → W p l e R s m args below meth c H1 locs1 cells slots Q (F0 m (pc + 1) ls rest)) : W p l e R s m args below meth c H locs cells slots Q (F0 m pc ls (.int x :: .int i :: .ref (B k) :: rest)) := by
  obtain ⟨⟨hx, hb, hml, hown, hts⟩, hr, hlk, hK, hA, hSt⟩ := C
  obtain ⟨h1, h2⟩ := ww_ix hj hij hl
  refine va_iast hx hb hK hN.1 hN.2.1 hN.2.2 k 0 ((ww_at hk).trans (by rw [hce])) rfl h1 hdg (fun H1 locs1 hP hD hS => ?_)
  rw [h2, ww_set' hk (hce _)] at hP hD
  exact kk _ rfl H1 locs1 ⟨hP, hD, hS⟩
theorem rr_bast (C : ww_C D ca own cc nL Ts ret A p s m args meth c) (hN : ww_N D ca B N n u X A s.heap H locs) (k : Nat) (hk : k < N) {len : Nat} (hce : ∀ f, ww_ce ca B n k f = .inl (ca 1, len, .inl f)) (hl : len < 2 ^ 31) {i x : Int32} (j : Nat) (hj : j < len) (hij : i = nI j) (hdg : decode cc pc = .ok (.bastore, 1))
    (kk : ∀ u1 : ww_U, u1 = ww_up u k j (vp_nar .byte x) → ∀ (H1 : Heap) (locs1 : List Loc), ww_N D ca B N n u1 X A s.heap H1 locs1 → W p l e R s m args below meth c H1 locs1 cells slots Q (F0 m (pc + 1) ls rest)) : W p l e R s m args below meth c H locs cells slots Q (F0 m pc ls (.int x :: .int i :: .ref (B k) :: rest)) := by
  obtain ⟨⟨hx, hb, hml, hown, hts⟩, hr, hlk, hK, hA, hSt⟩ := C
  obtain ⟨h1, h2⟩ := ww_ix hj hij hl
  refine va_bast hx hb hK hN.1 hN.2.1 hN.2.2 k 1 ((ww_at hk).trans (by rw [hce])) rfl h1 hdg (fun H1 locs1 hP hD hS => ?_)
  rw [h2, ww_set' hk (hce _)] at hP hD
  exact kk _ rfl H1 locs1 ⟨hP, hD, hS⟩
theorem rr_zast (C : ww_C D ca own cc nL Ts ret A p s m args meth c) (hN : ww_N D ca B N n u X A s.heap H locs) (k : Nat) (hk : k < N) {len : Nat} (hce : ∀ f, ww_ce ca B n k f = .inl (ca 2, len, .inl f)) (hl : len < 2 ^ 31) {i x : Int32} (j : Nat) (hj : j < len) (hij : i = nI j) (hdg : decode cc pc = .ok (.bastore, 1))
    (kk : ∀ u1 : ww_U, u1 = ww_up u k j (vp_nar .boolean x) → ∀ (H1 : Heap) (locs1 : List Loc), ww_N D ca B N n u1 X A s.heap H1 locs1 → W p l e R s m args below meth c H1 locs1 cells slots Q (F0 m (pc + 1) ls rest)) : W p l e R s m args below meth c H locs cells slots Q (F0 m pc ls (.int x :: .int i :: .ref (B k) :: rest)) := by
  obtain ⟨⟨hx, hb, hml, hown, hts⟩, hr, hlk, hK, hA, hSt⟩ := C
  obtain ⟨h1, h2⟩ := ww_ix hj hij hl
  refine va_zast hx hb hK hN.1 hN.2.1 hN.2.2 k 2 ((ww_at hk).trans (by rw [hce])) rfl h1 hdg (fun H1 locs1 hP hD hS => ?_)
  rw [h2, ww_set' hk (hce _)] at hP hD
  exact kk _ rfl H1 locs1 ⟨hP, hD, hS⟩
theorem rr_ald (C : ww_C D ca own cc nL Ts ret A p s m args meth c) (hN : ww_N D ca B N n u X A s.heap H locs) (k : Nat) (hk : k < N) (t0 : Nat) {len : Nat} {Cn : String} {f : Nat → Option Nat} (hce : ww_ce ca B n k (u k) = .inl (ca t0, len, .inr (.inr (.inr (.inr f))))) (ht : (ww_ty ca)[t0]? = some (ca t0, .object Cn)) (hl : len < 2 ^ 31) {i : Int32} (j : Nat) (hj : j < len) (hij : i = nI j) {v : Value} (hv : va_rf (f j) = v) (hdg : decode cc pc = .ok (.aaload, 1))
    (kk : W p l e R s m args below meth c H locs cells slots Q (F0 m (pc + 1) ls (v :: rest))) : W p l e R s m args below meth c H locs cells slots Q (F0 m pc ls (.int i :: .ref (B k) :: rest)) := by
  obtain ⟨⟨hx, hb, hml, hown, hts⟩, hr, hlk, hK, hA, hSt⟩ := C
  obtain ⟨h1, h2⟩ := ww_ix hj hij hl
  refine va_aldq hx hb hK hN.1 k t0 ((ww_at hk).trans (by rw [hce])) ht h1 hdg ?_
  rw [h2, hv]
  exact kk
theorem ww_pre (C : ww_C D ca own cc nL Ts ret A p s m args meth c) (hN : ww_N D ca B N n u X A s.heap H locs) {U : State} (hU : U.heap = H) (hW : s.WarmedH U.vm) : U.heap.size = H.size ∧ ww_Wd D ca B N n u X (ww_A B N X H.size) U := by
  obtain ⟨⟨hx, hb, hml, hown, hts⟩, hr, hlk, hK, hA, hSt⟩ := C
  obtain ⟨hP, hD, hS⟩ := hN
  refine ⟨by rw [hU], by rw [hU]; exact hP, va_K.moved hW.alike hK, ww_D_self hD, ?_⟩
  have h1 : ww_St A s H := hSt.kept (fun a h1 h2 => hS.2.1 a h1 h2)
  have h2 : ww_St (ww_A B N X H.size) s H := h1.narrow (fun q h => ww_A_in hD (fun q h => hA q (Nat.le_trans hS.1 h)) h)
  rw [hU]
  exact h2.moved hW.alike
theorem ww_blind {av : List Value} {sz : Nat} : FrameBlind (va_Pc av (fun U => U.heap.size = sz ∧ ww_Wd D ca B N n u X (ww_A B N X sz) U)) := by
  intro a U g mk h
  obtain ⟨h1, h2, h3, h4, h5, h6⟩ := h
  exact ⟨h1, h2, h3, va_K.moved (u := U) (U := U.calling g mk a) (Vm.Alike.refl U.vm) h4, h5, ww_St.moved (u := U) (U := U.calling g mk a) (Vm.Alike.refl U.vm) h6⟩
theorem ww_go {st0 : List Value} {r : Option Value} {u' : ww_U} {a : Array Value} (C : ww_C D ca own cc nL Ts ret A p s m args meth c) (hN : ww_N D ca B N n u X A s.heap H locs)
    (hr : va_Run p l e R s m args below meth c H locs cells slots 0 0 (F0 m pc ls st0) rest (ww_Q D ca B N n X H.size r u' a) (ww_A B N X H.size))
    (kk : ∀ (H1 : Heap) (locs1 : List Loc), ww_N D ca B N n u' X A s.heap H1 locs1 → W p l e R s m args below meth c H1 locs1 cells slots Q (F0 m (pc + 3) ls (r.toList ++ rest))) : W p l e R s m args below meth c H locs cells slots Q (F0 m pc ls st0) := by
  intro T hT Y
  obtain ⟨v, st₀, t, T', L, h0, Y', hL, e1, e2, ⟨⟨hv, hP1, hK1, hD1, hSt1⟩, hz, hk⟩, st⟩ := hr T hT Y
  cases hv
  obtain ⟨-, -, -, -, hA, -⟩ := C
  obtain ⟨hP, hD, hS⟩ := hN
  have hAA : ∀ q, ww_A B N X H.size q → A q := fun q h => ww_A_in hD (fun q h => hA q (Nat.le_trans hS.1 h)) h
  rw [h0] at hz hk
  rw [← e1] at hP1 hz
  obtain ⟨t2, a1, b1⟩ := kk T'.heap (locs ++ L) ⟨hP1, hD1.weaken (fun k q _ h => hAA _ h), Nat.le_trans hS.1 hz, fun q h1 h2 => by rw [e1, hk q (Nat.lt_of_lt_of_le h1 hS.1) (fun z => h2 (hAA q z))]; exact hS.2.1 q h1 h2, fun q hq => by
    rcases List.mem_append.mp hq with h | h
    · exact hS.2.2 q h
    · exact hAA _ (hL q h)⟩ T' rfl Y'
  exact ⟨t2, st t2 a1, b1⟩
theorem rr_callV {y : MethodName} {ws ws' : List Cond} {rm : Room} {As : List Value} {v : Value} {u' : ww_U} {bytes : ByteArray} {maxL index : Nat} {rt : Option FieldType} {Cn : String} {q : vw_C} {ci : Nat} {fs : List Value} (C : ww_C D ca own cc nL Ts ret A p s m args meth c) (hN : ww_N D ca B N n u X A s.heap H locs) (k : Nat) (hk : k < N) (hce : ww_ce ca B n k (u k) = .inr (ci, fs)) (hc : ww_cl[ci]? = some q) (hq : q.1 = Cn)
    (hM : ww_M l y ws rm D ca B N n X u (.ref (B k) :: As) (some v) u') (hg : GoodIn Ts (wsV own index Cn y ws)) (hw : ws = Cond.code y bytes maxL rt :: ws') (hrc : rm.cells = 0) (hrs : rm.slots = 0) (nA : Nat)
    (hd : y.cls = Cn ∧ y.cls ≠ "java/lang/invoke/MethodHandle" ∧ y.cls ≠ "java/lang/invoke/VarHandle" ∧ (parseMethodDescriptor y.desc).map (fun d => d.parameters.length) = some nA) (hR : rm.frames + 1 ≤ R.frames ∧ 8 + (maxL + 11) + rm.locals ≤ R.locals)
    (hn : As.length = nA) (hls : ls.size = nL) {st0 : List Value} (hst : st0 = As.reverse ++ .ref (B k) :: rest) (hroom : (rest.map fun v => v.category).sum ≤ 8) (hf : cells ≤ R.cells ∧ slots ≤ R.slots) (hdg : decode cc pc = .ok (.invokevirtual index, 3))
    (kk : ∀ (H1 : Heap) (locs1 : List Loc), ww_N D ca B N n u' X A s.heap H1 locs1 → W p l e R s m args below meth c H1 locs1 cells slots Q (F0 m (pc + 3) ls (v :: rest))) : W p l e R s m args below meth c H locs cells slots Q (F0 m pc ls st0) := by
  subst hq
  refine ww_go C hN (va_runV (As := As) (rest := rest) (b := B k) C.1 (hM H.size) (cwV nA C.1.2.2.2.2 hg hw hrc hrs hd hR) ⟨ww_blind, va_recv C.2.2.2.1 hN.1 (ci := ci) (q0 := k) (fs := fs) hc ((ww_at hk).trans (by rw [hce])), fun U hU hW => ⟨rfl, ww_pre C hN hU hW⟩⟩ rfl hn hls hst (lv_room hroom) hdg hf) kk
theorem rr_callV0 {y : MethodName} {ws ws' : List Cond} {rm : Room} {As : List Value} {u' : ww_U} {bytes : ByteArray} {maxL index : Nat} {rt : Option FieldType} {Cn : String} {q : vw_C} {ci : Nat} {fs : List Value} (C : ww_C D ca own cc nL Ts ret A p s m args meth c) (hN : ww_N D ca B N n u X A s.heap H locs) (k : Nat) (hk : k < N) (hce : ww_ce ca B n k (u k) = .inr (ci, fs)) (hc : ww_cl[ci]? = some q) (hq : q.1 = Cn)
    (hM : ww_M l y ws rm D ca B N n X u (.ref (B k) :: As) none u') (hg : GoodIn Ts (wsV own index Cn y ws)) (hw : ws = Cond.code y bytes maxL rt :: ws') (hrc : rm.cells = 0) (hrs : rm.slots = 0) (nA : Nat)
    (hd : y.cls = Cn ∧ y.cls ≠ "java/lang/invoke/MethodHandle" ∧ y.cls ≠ "java/lang/invoke/VarHandle" ∧ (parseMethodDescriptor y.desc).map (fun d => d.parameters.length) = some nA) (hR : rm.frames + 1 ≤ R.frames ∧ 8 + (maxL + 11) + rm.locals ≤ R.locals)
    (hn : As.length = nA) (hls : ls.size = nL) {st0 : List Value} (hst : st0 = As.reverse ++ .ref (B k) :: rest) (hroom : (rest.map fun v => v.category).sum ≤ 8) (hf : cells ≤ R.cells ∧ slots ≤ R.slots) (hdg : decode cc pc = .ok (.invokevirtual index, 3))
    (kk : ∀ (H1 : Heap) (locs1 : List Loc), ww_N D ca B N n u' X A s.heap H1 locs1 → W p l e R s m args below meth c H1 locs1 cells slots Q (F0 m (pc + 3) ls rest)) : W p l e R s m args below meth c H locs cells slots Q (F0 m pc ls st0) := by
  subst hq
  refine ww_go C hN (va_runV (As := As) (rest := rest) (b := B k) C.1 (hM H.size) (cwV nA C.1.2.2.2.2 hg hw hrc hrs hd hR) ⟨ww_blind, va_recv C.2.2.2.1 hN.1 (ci := ci) (q0 := k) (fs := fs) hc ((ww_at hk).trans (by rw [hce])), fun U hU hW => ⟨rfl, ww_pre C hN hU hW⟩⟩ rfl hn hls hst (lv_room hroom) hdg hf) kk
theorem rr_callS {y : MethodName} {ws ws' : List Cond} {rm : Room} {As : List Value} {v : Value} {u' : ww_U} {bytes : ByteArray} {maxL index : Nat} {rt : Option FieldType} (C : ww_C D ca own cc nL Ts ret A p s m args meth c) (hN : ww_N D ca B N n u X A s.heap H locs)
    (hM : ww_M l y ws rm D ca B N n X u As (some v) u') (hg : GoodIn Ts (va_wsS own index y ws)) (hw : ws = Cond.code y bytes maxL rt :: ws') (hrc : rm.cells = 0) (hrs : rm.slots = 0) (nA : Nat)
    (hd : y.cls ≠ "java/lang/invoke/MethodHandle" ∧ y.cls ≠ "java/lang/invoke/VarHandle" ∧ (parseMethodDescriptor y.desc).map (fun d => d.parameters.length) = some nA) (hR : rm.frames + 1 ≤ R.frames ∧ 8 + (maxL + 11) + rm.locals ≤ R.locals)
    (hn : As.length = nA) (hls : ls.size = nL) {st0 : List Value} (hst : st0 = As.reverse ++ rest) (hroom : (rest.map fun v => v.category).sum ≤ 8) (hf : cells ≤ R.cells ∧ slots ≤ R.slots) (hdg : decode cc pc = .ok (.invokestatic index, 3))
    (kk : ∀ (H1 : Heap) (locs1 : List Loc), ww_N D ca B N n u' X A s.heap H1 locs1 → W p l e R s m args below meth c H1 locs1 cells slots Q (F0 m (pc + 3) ls (v :: rest))) : W p l e R s m args below meth c H locs cells slots Q (F0 m pc ls st0) := by
  refine ww_go C hN (va_runS (As := As) (rest := rest) C.1 (hM H.size) (va_cwS nA C.1.2.2.2.2 hg hw hrc hrs hd hR) ⟨ww_blind, fun U hU hW => ⟨rfl, ww_pre C hN hU hW⟩⟩ rfl hn hls hst (lv_room hroom) hdg hf) kk
theorem rr_callS0 {y : MethodName} {ws ws' : List Cond} {rm : Room} {As : List Value} {u' : ww_U} {bytes : ByteArray} {maxL index : Nat} {rt : Option FieldType} (C : ww_C D ca own cc nL Ts ret A p s m args meth c) (hN : ww_N D ca B N n u X A s.heap H locs)
    (hM : ww_M l y ws rm D ca B N n X u As none u') (hg : GoodIn Ts (va_wsS own index y ws)) (hw : ws = Cond.code y bytes maxL rt :: ws') (hrc : rm.cells = 0) (hrs : rm.slots = 0) (nA : Nat)
    (hd : y.cls ≠ "java/lang/invoke/MethodHandle" ∧ y.cls ≠ "java/lang/invoke/VarHandle" ∧ (parseMethodDescriptor y.desc).map (fun d => d.parameters.length) = some nA) (hR : rm.frames + 1 ≤ R.frames ∧ 8 + (maxL + 11) + rm.locals ≤ R.locals)
    (hn : As.length = nA) (hls : ls.size = nL) {st0 : List Value} (hst : st0 = As.reverse ++ rest) (hroom : (rest.map fun v => v.category).sum ≤ 8) (hf : cells ≤ R.cells ∧ slots ≤ R.slots) (hdg : decode cc pc = .ok (.invokestatic index, 3))
    (kk : ∀ (H1 : Heap) (locs1 : List Loc), ww_N D ca B N n u' X A s.heap H1 locs1 → W p l e R s m args below meth c H1 locs1 cells slots Q (F0 m (pc + 3) ls rest)) : W p l e R s m args below meth c H locs cells slots Q (F0 m pc ls st0) := by
  refine ww_go C hN (va_runS (As := As) (rest := rest) C.1 (hM H.size) (va_cwS nA C.1.2.2.2.2 hg hw hrc hrs hd hR) ⟨ww_blind, fun U hU hW => ⟨rfl, ww_pre C hN hU hW⟩⟩ rfl hn hls hst (lv_room hroom) hdg hf) kk
theorem ww_end {r : Option Value} {u' : ww_U} {oc : Outcome} (C : ww_C D ca own cc nL Ts ret (ww_A B N X s.heap.size) p s m args meth c) (hN : ww_N D ca B N n u X (ww_A B N X s.heap.size) s.heap H locs) (ho : oc = .returned r) (hu : u' = u) : ∀ t : State, t.heap = H → s.WarmedH t.vm → ww_Q D ca B N n X s.heap.size r u' args s oc t := by
  intro t ht hW
  obtain ⟨⟨hx, hb, hml, hown, hts⟩, hr, hlk, hK, hA, hSt⟩ := C
  obtain ⟨hP, hD, hS⟩ := hN
  subst hu
  refine ⟨⟨ho, by rw [ht]; exact hP, va_K.moved hW.alike hK, hD, ?_⟩, hS.F ht⟩
  rw [ht]
  exact (hSt.kept (fun a h1 h2 => hS.2.1 a h1 h2)).moved hW.alike
theorem rr_iret {r : Option Value} {u' : ww_U} {v : Int32} (C : ww_C D ca own cc nL Ts (some .int) (ww_A B N X s.heap.size) p s m args meth c) (hN : ww_N D ca B N n u X (ww_A B N X s.heap.size) s.heap H locs) (hdg : decode cc pc = .ok (.ireturn, 1)) (hr : r = some (.int v)) (hu : u' = u) :
    W p l e R s m args below meth c H locs 0 0 (MQ below (ww_Q D ca B N n X s.heap.size r u') args s 0 0 (ww_A B N X s.heap.size)) (F0 m pc ls [.int v]) := by
  exact W.iret C.1.1 C.1.2.1 C.2.1 (ww_end C hN (by rw [hr]) hu) hN.2.2.2.2 hdg C.2.2.1
theorem rr_lret {r : Option Value} {u' : ww_U} {v : Int64} (C : ww_C D ca own cc nL Ts (some .long) (ww_A B N X s.heap.size) p s m args meth c) (hN : ww_N D ca B N n u X (ww_A B N X s.heap.size) s.heap H locs) (hdg : decode cc pc = .ok (.lreturn, 1)) (hr : r = some (.long v)) (hu : u' = u) :
    W p l e R s m args below meth c H locs 0 0 (MQ below (ww_Q D ca B N n X s.heap.size r u') args s 0 0 (ww_A B N X s.heap.size)) (F0 m pc ls [.long v]) := by
  exact W.lret C.1.1 C.1.2.1 C.2.1 (ww_end C hN (by rw [hr]) hu) hN.2.2.2.2 hdg C.2.2.1
theorem rr_zret {r : Option Value} {u' : ww_U} {v : Int32} {ty : FieldType} (C : ww_C D ca own cc nL Ts (some ty) (ww_A B N X s.heap.size) p s m args meth c) (hN : ww_N D ca B N n u X (ww_A B N X s.heap.size) s.heap H locs) (hdg : decode cc pc = .ok (.ireturn, 1)) (hn : narrow ty (.int v) = .int v) (hr : r = some (.int v)) (hu : u' = u) :
    W p l e R s m args below meth c H locs 0 0 (MQ below (ww_Q D ca B N n X s.heap.size r u') args s 0 0 (ww_A B N X s.heap.size)) (F0 m pc ls [.int v]) := by
  exact W.zret C.1.1 C.1.2.1 C.2.1 hn (ww_end C hN (by rw [hr]) hu) hN.2.2.2.2 hdg C.2.2.1
theorem rr_vret {u' : ww_U} {r : Option Value} (C : ww_C D ca own cc nL Ts none (ww_A B N X s.heap.size) p s m args meth c) (hN : ww_N D ca B N n u X (ww_A B N X s.heap.size) s.heap H locs) (hdg : decode cc pc = .ok (.return_, 1)) (hr : r = none) (hu : u' = u) :
    W p l e R s m args below meth c H locs 0 0 (MQ below (ww_Q D ca B N n X s.heap.size r u') args s 0 0 (ww_A B N X s.heap.size)) (F0 m pc ls []) := by
  exact W.vret C.1.1 C.1.2.1 C.2.1 (ww_end C hN (by rw [hr]) hu) hN.2.2.2.2 hdg C.2.2.1
theorem rr_aret {u' : ww_U} {r : Option Value} {nm : String} {v : Value} (C : ww_C D ca own cc nL Ts (some (.object nm)) (ww_A B N X s.heap.size) p s m args meth c) (hN : ww_N D ca B N n u X (ww_A B N X s.heap.size) s.heap H locs) (hdg : decode cc pc = .ok (.areturn, 1)) (hv : v = .null ∨ ∃ a, v = .ref a) (hr : r = some v) (hu : u' = u) :
    W p l e R s m args below meth c H locs 0 0 (MQ below (ww_Q D ca B N n X s.heap.size r u') args s 0 0 (ww_A B N X s.heap.size)) (F0 m pc ls [v]) := by
  exact W.aret C.1.1 C.1.2.1 C.2.1 (Or.inl ⟨_, rfl⟩) hv (ww_end C hN (by rw [hr]) hu) hN.2.2.2.2 hdg C.2.2.1
end WR
abbrev kC (i : Nat) : Nat := 36 + 8 * i
abbrev kR (i : Nat) : Nat := 36 + 8 * i + 1
abbrev kB (i b : Nat) : Nat := 36 + 8 * i + 2 + 2 * b
abbrev kO (i b : Nat) : Nat := 36 + 8 * i + 2 + 2 * b + 1
abbrev kP (i : Nat) : Nat := 36 + 8 * i + 6
abbrev kQ (i : Nat) : Nat := 36 + 8 * i + 6 + 1
theorem kC_lt {n N i : Nat} (h : 36 + 8 * n ≤ N) (hi : i < n) : kC i < N := by show 36 + 8 * i < N; omega
theorem kR_lt {n N i : Nat} (h : 36 + 8 * n ≤ N) (hi : i < n) : kR i < N := by show 36 + 8 * i + 1 < N; omega
theorem kB_lt {n N i b : Nat} (h : 36 + 8 * n ≤ N) (hi : i < n) (hb : b < 2) : kB i b < N := by show 36 + 8 * i + 2 + 2 * b < N; omega
theorem kO_lt {n N i b : Nat} (h : 36 + 8 * n ≤ N) (hi : i < n) (hb : b < 2) : kO i b < N := by show 36 + 8 * i + 2 + 2 * b + 1 < N; omega
theorem kP_lt {n N i : Nat} (h : 36 + 8 * n ≤ N) (hi : i < n) : kP i < N := by show 36 + 8 * i + 6 < N; omega
theorem kQ_lt {n N i : Nat} (h : 36 + 8 * n ≤ N) (hi : i < n) : kQ i < N := by show 36 + 8 * i + 6 + 1 < N; omega
theorem hC_ce {ca : Nat → ClassId} {B : Nat → Nat} {n i : Nat} {f : Nat → Int32} : ww_ce ca B n (kC i) f = .inr (1, ww_fc B (kC i) f) := ww_ctl i 0 (by decide) rfl
theorem hR_ce {ca : Nat → ClassId} {B : Nat → Nat} {n i : Nat} {f : Nat → Int32} : ww_ce ca B n (kR i) f = .inl (ca 4, 2, .inr (.inr (.inr (.inr (fun b => some (B (kB i b))))))) := ww_ctl i 1 (by decide) rfl
theorem hB_ce {ca : Nat → ClassId} {B : Nat → Nat} {n i b : Nat} {f : Nat → Int32} (hb : b < 2) : ww_ce ca B n (kB i b) f = .inr (0, ww_fb B (kB i b) f) := by
  rcases (show b = 0 ∨ b = 1 by omega) with rfl | rfl
  · exact ww_ctl i 2 (by decide) rfl
  · exact ww_ctl i 4 (by decide) rfl
theorem hO_ce {ca : Nat → ClassId} {B : Nat → Nat} {n i b : Nat} {f : Nat → Int32} (hb : b < 2) : ww_ce ca B n (kO i b) f = .inl (ca 1, 256, .inl f) := by
  rcases (show b = 0 ∨ b = 1 by omega) with rfl | rfl
  · exact ww_ctl i 3 (by decide) rfl
  · exact ww_ctl i 5 (by decide) rfl
theorem hP_ce {ca : Nat → ClassId} {B : Nat → Nat} {n i : Nat} {f : Nat → Int32} : ww_ce ca B n (kP i) f = .inr (3, ww_fp B (kP i) f) := ww_ctl i 6 (by decide) rfl
theorem hQ_ce {ca : Nat → ClassId} {B : Nat → Nat} {n i : Nat} {f : Nat → Int32} : ww_ce ca B n (kQ i) f = .inl (ca 1, 256, .inl f) := ww_ctl i 7 (by decide) rfl

