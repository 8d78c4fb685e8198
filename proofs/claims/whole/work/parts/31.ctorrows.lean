/-! constructors: the world is pre ++ a written list, the new object at the list's head -/
def wl_W (D : va_G) (ca : Nat → ClassId) (ws : va_W) (A : Nat → Prop) (U : State) : Prop := va_P D ww_cl ws U.heap ∧ va_K D ww_cl (ww_ty ca) U ∧ va_D A ws ∧ ww_St A U U.heap ∧ va_AO RX0 U ∧ va_AO RX1 U
def wl_N (D : va_G) (ws : va_W) (A : Nat → Prop) (H0 H : Heap) (locs : List Loc) : Prop := va_P D ww_cl ws H ∧ va_D A ws ∧ va_S A H0 H locs
def wl_Q (D : va_G) (ca : Nat → ClassId) (ws : va_W) (sz : Nat) (F : List Nat → va_W) : Array Value → State → Outcome → State → Prop := fun _ st oc t => (∃ qs : List Nat, oc = .returned none ∧ wl_W D ca (F qs) (va_A ws sz) t) ∧ va_F (va_A ws sz) st t
def wl_M (l : Launch) (y : MethodName) (wd : List Cond) (rm : Room) (D : va_G) (ca : Nat → ClassId) (pre : va_W) (h0 : Nat) (e0 : va_E) (av : List Value) (F : List Nat → va_W) (mc ms : Nat) : Prop :=
  ∀ sz : Nat, Met l y wd rm (va_Pc (.ref h0 :: av) (fun U => U.heap.size = sz ∧ wl_W D ca (pre ++ [(h0, e0)]) (va_A (pre ++ [(h0, e0)]) sz) U)) (wl_Q D ca (pre ++ [(h0, e0)]) sz (fun qs => pre ++ F qs)) mc ms (va_A (pre ++ [(h0, e0)]) sz)
/-- what stays inside a constructor -/
def wl_C (D : va_G) (ca : Nat → ClassId) (own : String) (cc : ByteArray) (nL : Nat) (Ts : List Cond) (A : Nat → Prop) (p : Program) (s : State) (m : MethodId) (args : Array Value) (meth : Method) (c : Code) : Prop :=
  ww_C D ca own cc nL Ts none A p s m args meth c ∧ meth.name = "<init>" ∧ va_AO RX0 s ∧ va_AO RX1 s
theorem pl_at {pre lit : va_W} (j : Nat) : (pre ++ lit)[pre.length + j]? = lit[j]? := by
  rw [List.getElem?_append_right (by omega)]
  congr 1
  omega
theorem pl_setg {α : Type} (pre lit : List α) (j : Nat) (x : α) : (pre ++ lit).set (pre.length + j) x = pre ++ lit.set j x := by
  induction pre with
  | nil => simp
  | cons a t ih =>
    show (a :: (t ++ lit)).set (t.length + 1 + j) x = a :: (t ++ lit.set j x)
    rw [show t.length + 1 + j = (t.length + j) + 1 by omega, List.set_cons_succ, ih]
theorem pl_set {pre lit : va_W} {j : Nat} {x : Nat × va_E} : (pre ++ lit).set (pre.length + j) x = pre ++ lit.set j x := pl_setg pre lit j x
theorem wl_met {l : Launch} {y : MethodName} {wd wd' : List Cond} {rm : Room} {D : va_G} {ca : Nat → ClassId} {pre : va_W} {h0 : Nat} {e0 : va_E} {av : List Value} {F : List Nat → va_W} {mc ms : Nat} {cc : ByteArray} {maxL : Nat}
    (hy : plainName y.cls = true) (hi : y.name = "<init>") (hw : wd = Cond.code y cc maxL none :: wd') (hlen : (lg_sl (.ref h0 :: av)).length ≤ maxL)
    (body : ∀ (p : Program) (e : Env) (s : State) (m : MethodId) (args : Array Value) (below : List Frame) (meth : Method) (c : Code) (A : Nat → Prop), A = va_A (pre ++ [(h0, e0)]) s.heap.size → wl_C D ca y.cls cc maxL wd A p s m args meth c → wl_N D (pre ++ [(h0, e0)]) A s.heap s.heap [] → ∀ ls : Array Slot, lv_has ls maxL (lv_args 0 (.ref h0 :: av)) →
      W p l e (headSpec wd rm).room s m args below meth c s.heap [] 0 0 (MQ below (wl_Q D ca (pre ++ [(h0, e0)]) s.heap.size (fun qs => pre ++ F qs)) args s mc ms (va_A (pre ++ [(h0, e0)]) s.heap.size)) (F0 m 0 ls [])) : wl_M l y wd rm D ca pre h0 e0 av F mc ms := by
  intro sz
  refine Met.ofW (cc := cc) (maxL := maxL) (ret := none) hy hw ?_
  intro p e s m args below meth c s₁ Bd hml hv
  obtain ⟨rfl, hsz, hP, hK, hD, hSt, ho0, ho1⟩ := hv
  subst hsz
  have hl := lv_entry (.ref h0 :: av) (n := maxL) hlen
  rw [lg_entry_eq]
  generalize (lg_sl (.ref h0 :: av) ++ List.replicate (maxL - (lg_sl (.ref h0 :: av)).length) Slot.unset).toArray = ls at hl ⊢
  exact body p e s m _ below meth c _ rfl ⟨⟨⟨Bd.exec, Bd.bytes, hml, findClass_of_methodNamed Bd.named, atoms_spec (ws := wd) Bd.pre⟩, Bd.returns, Bd.notSynchronized, hK, fun q h => Or.inr h, hSt⟩, ((name_of_methodNamed Bd.named Bd.method).1.trans hi), ho0, ho1⟩ ⟨hP, hD, va_S.rf⟩ ls hl
section WL
variable {p : Program} {l : Launch} {e : Env} {R : Room} {s : State} {m : MethodId} {args : Array Value} {below : List Frame} {meth : Method} {c : Code} {H : Heap} {locs : List Loc} {cells slots : Nat} {Q : State → Prop}
variable {D : va_G} {ca : Nat → ClassId} {own : String} {cc : ByteArray} {nL : Nat} {Ts : List Cond} {ret : Option FieldType} {A : Nat → Prop} {pre lit : va_W} {pc : Nat} {ls : Array Slot} {rest : List Value}
theorem ll_newa (C : ww_C D ca own cc nL Ts ret A p s m args meth c) (hN : wl_N D (pre ++ lit) A s.heap H locs) {atype : ArrayType} {ty : FieldType} (t : Nat) (hty : newarray.typeOf atype = ty) (harr : Cond.arrayClass ty ∈ Ts) (ht : (ww_ty ca)[t]? = some (ca t, ty)) (hra : ∀ U cA, va_RA U cA ty → U.vm.findClass ("[" ++ ty.toString) = some cA) {n : Int32} {N' : Nat} (hdv : defaultValue ty = .int 0) (hn : ¬ n < 0) (hN' : n.toNatClampNeg = N') (hbytes : N' * componentBytes ty ≤ 536870912) (hcells : cells + 1 ≤ R.cells) (hslots : slots + N' ≤ R.slots) (hdg : decode cc pc = .ok (.newarray atype, 2))
    (kk : ∀ (q : Nat) (H1 : Heap), wl_N D (pre ++ (lit ++ [(q, .inl (ca t, N', .inl (fun _ => 0)))])) A s.heap H1 locs → W p l e R s m args below meth c H1 locs (cells + 1) (slots + N') Q (F0 m (pc + 2) ls (.ref q :: rest))) : W p l e R s m args below meth c H locs cells slots Q (F0 m pc ls (.int n :: rest)) := by
  obtain ⟨⟨hx, hb, hml, hown, hts⟩, hr, hlk, hK, hA, hSt⟩ := C
  subst hty
  refine va_newa hx hb (hts _ harr) rfl hK hN.1 hN.2.1 hN.2.2 hA (a0 := (N', .inl (fun _ => 0))) (fun cA => by show arrV cA N' (fun _ => .int 0) = _; rw [hdv]) hn hN' hbytes hcells hslots hdg (fun q cA H1 hK1 hP hD hS => ?_)
  have h1 := (hK.2 t _ ht).2
  have h2 := (hK1.2 (ww_ty ca).length (cA, newarray.typeOf atype) (by simp)).2
  have he : cA = ca t := Option.some.inj ((hra _ _ h2).symm.trans (hra _ _ h1))
  subst he
  rw [List.append_assoc] at hP hD
  exact kk q H1 ⟨hP, hD, hS⟩
theorem ll_newq (C : ww_C D ca own cc nL Ts ret A p s m args meth c) (hN : wl_N D (pre ++ lit) A s.heap H locs) {Cn : String} (t : Nat) {index : Nat} (hcl : Cond.classLink own index Cn ∈ Ts) (hao : va_AO Cn s) (ht : (ww_ty ca)[t]? = some (ca t, .object Cn)) {n : Int32} {N' : Nat} (hn : ¬ n < 0) (hN' : n.toNatClampNeg = N') (hbytes : N' * 4 ≤ 536870912) (hcells : cells + 1 ≤ R.cells) (hslots : slots + N' ≤ R.slots) (hdg : decode cc pc = .ok (.anewarray index, 3))
    (kk : ∀ (q : Nat) (H1 : Heap), wl_N D (pre ++ (lit ++ [(q, .inl (ca t, N', .inr (.inr (.inr (.inr (fun _ => none))))))])) A s.heap H1 locs → W p l e R s m args below meth c H1 locs (cells + 1) (slots + N') Q (F0 m (pc + 3) ls (.ref q :: rest))) : W p l e R s m args below meth c H locs cells slots Q (F0 m pc ls (.int n :: rest)) := by
  obtain ⟨⟨hx, hb, hml, hown, hts⟩, hr, hlk, hK, hA, hSt⟩ := C
  refine va_newq hx hb hown (hts _ hcl) hao hK hN.1 hN.2.1 hN.2.2 hA hn hN' hbytes hcells hslots hdg (fun q cA H1 hK1 hP hD hS => ?_)
  obtain ⟨k1, c1, a1, a2, a3, h1⟩ := (hK.2 t _ ht).2
  obtain ⟨k2, c2, b1, b2, b3, h2⟩ := (hK1.2 (ww_ty ca).length (cA, .object Cn) (by simp)).2
  have he : cA = ca t := Option.some.inj (h2.symm.trans h1)
  subst he
  rw [List.append_assoc] at hP hD
  exact kk q H1 ⟨hP, hD, hS⟩
theorem ll_new (C : ww_C D ca own cc nL Ts ret A p s m args meth c) (hN : wl_N D (pre ++ lit) A s.heap H locs) {ci NN index : Nat} {Cn : String} {T : u_T} {ty0 : Nat → FieldType} (hw : ww_K Ts Cn T NN ty0) (hc : ww_cl[ci]? = some (Cn, T, NN)) (hcl : Cond.classLink own index Cn ∈ Ts) (hins : Cond.instantiable Cn NN ∈ Ts) (hini : Cond.initialized Cn ∈ Ts) {fs : List Value} (hfs : ∀ j, j < NN → defaultValue (ty0 j) = vp_V fs j) (hcells : cells + 1 ≤ R.cells) (hslots : slots + NN ≤ R.slots) (hdg : decode cc pc = .ok (.new index, 3))
    (kk : ∀ (q : Nat) (H1 : Heap), wl_N D (pre ++ (lit ++ [(q, .inr (ci, fs))])) A s.heap H1 locs → W p l e R s m args below meth c H1 locs (cells + 1) (slots + NN) Q (F0 m (pc + 3) ls (.ref q :: rest))) : W p l e R s m args below meth c H locs cells slots Q (F0 m pc ls rest) := by
  obtain ⟨⟨hx, hb, hml, hown, hts⟩, hr, hlk, hK, hA, hSt⟩ := C
  refine va_new hx hb hts hw.1 ty0 hw.2.1 hown (hts _ hcl) (hts _ hins) (hts _ hini) hK hN.1 hN.2.1 hN.2.2 hA hc hfs hcells hslots hdg (fun q H1 hP hD hS => ?_)
  rw [List.append_assoc] at hP hD
  exact kk q H1 ⟨hP, hD, hS⟩
theorem ll_putF (C : wl_C D ca own cc nL Ts A p s m args meth c) (hN : wl_N D (pre ++ lit) A s.heap H locs) (k : Nat) {a ci NN : Nat} {fs : List Value} {Cn : String} {T : u_T} {ty0 : Nat → FieldType} (he : lit[k]? = some (a, .inr (ci, fs))) (hc : ww_cl[ci]? = some (Cn, T, NN)) (hw : ww_K Ts Cn T NN ty0) (j : Nat) (hj : j < NN) {index : Nat} (hlink : Cond.fieldLink own index (T j).1 (T j).2.1 (T j).2.2.1 ∈ Ts) (hfin : (T j).2.2.2 = true) (hdecl : (T j).1 = own) {v : Value} (hn : narrow (ty0 j) v = v) (hfit : fits (ty0 j) v = true) (hl : j < fs.length) (hdg : decode cc pc = .ok (.putfield index, 3))
    (kk : ∀ (H1 : Heap) (locs1 : List Loc), wl_N D (pre ++ lit.set k (a, .inr (ci, fs.set j v))) A s.heap H1 locs1 → W p l e R s m args below meth c H1 locs1 cells slots Q (F0 m (pc + 3) ls rest)) : W p l e R s m args below meth c H locs cells slots Q (F0 m pc ls (v :: .ref a :: rest)) := by
  obtain ⟨⟨⟨hx, hb, hml, hown, hts⟩, hr, hlk, hK, hA, hSt⟩, hnm, ho0, ho1⟩ := C
  refine va_putF hx hb hts hw.1 ty0 hw.2.1 hw.2.2 hown hK hN.1 hN.2.1 hN.2.2 (pre.length + k) ((pl_at k).trans he) hc j hj (hts _ hlink) (fun _ h => h) hfin hnm hdecl (hw.2.1 j hj) hn hfit hl hdg (fun H1 locs1 hP hD hS => ?_)
  rw [pl_set] at hP hD
  exact kk H1 locs1 ⟨hP, hD, hS⟩
theorem ll_put (C : ww_C D ca own cc nL Ts ret A p s m args meth c) (hN : wl_N D (pre ++ lit) A s.heap H locs) (k : Nat) {a ci NN : Nat} {fs : List Value} {Cn : String} {T : u_T} {ty0 : Nat → FieldType} (he : lit[k]? = some (a, .inr (ci, fs))) (hc : ww_cl[ci]? = some (Cn, T, NN)) (hw : ww_K Ts Cn T NN ty0) (j : Nat) (hj : j < NN) {index : Nat} (hlink : Cond.fieldLink own index (T j).1 (T j).2.1 (T j).2.2.1 ∈ Ts) (hfin : (T j).2.2.2 = false) {v : Value} (hn : narrow (ty0 j) v = v) (hfit : fits (ty0 j) v = true) (hl : j < fs.length) (hdg : decode cc pc = .ok (.putfield index, 3))
    (kk : ∀ (H1 : Heap) (locs1 : List Loc), wl_N D (pre ++ lit.set k (a, .inr (ci, fs.set j v))) A s.heap H1 locs1 → W p l e R s m args below meth c H1 locs1 cells slots Q (F0 m (pc + 3) ls rest)) : W p l e R s m args below meth c H locs cells slots Q (F0 m pc ls (v :: .ref a :: rest)) := by
  obtain ⟨⟨hx, hb, hml, hown, hts⟩, hr, hlk, hK, hA, hSt⟩ := C
  refine va_put hx hb hts hw.1 ty0 hw.2.1 hw.2.2 hown hK hN.1 hN.2.1 hN.2.2 (pre.length + k) ((pl_at k).trans he) hc j hj (hts _ hlink) (fun _ h => h) hfin (hw.2.1 j hj) hn hfit hl hdg (fun H1 locs1 hP hD hS => ?_)
  rw [pl_set] at hP hD
  exact kk H1 locs1 ⟨hP, hD, hS⟩
theorem ll_get (C : ww_C D ca own cc nL Ts ret A p s m args meth c) (hN : wl_N D (pre ++ lit) A s.heap H locs) (k : Nat) {a ci NN : Nat} {fs : List Value} {Cn : String} {T : u_T} {ty0 : Nat → FieldType} (he : lit[k]? = some (a, .inr (ci, fs))) (hc : ww_cl[ci]? = some (Cn, T, NN)) (hw : ww_K Ts Cn T NN ty0) (j : Nat) (hj : j < NN) {index : Nat} (hlink : Cond.fieldLink own index (T j).1 (T j).2.1 (T j).2.2.1 ∈ Ts) {v : Value} (hv : fs[j]? = some v) (hdg : decode cc pc = .ok (.getfield index, 3))
    (kk : W p l e R s m args below meth c H locs cells slots Q (F0 m (pc + 3) ls (v :: rest))) : W p l e R s m args below meth c H locs cells slots Q (F0 m pc ls (.ref a :: rest)) := by
  obtain ⟨⟨hx, hb, hml, hown, hts⟩, hr, hlk, hK, hA, hSt⟩ := C
  exact va_get hx hb hts hw.1 hown hK hN.1 (pre.length + k) ((pl_at k).trans he) hc j hj (hts _ hlink) (fun _ h => h) hv hdg kk
theorem ll_ast (C : ww_C D ca own cc nL Ts ret A p s m args meth c) (hN : wl_N D (pre ++ lit) A s.heap H locs) (k t kv : Nat) {a v ci len : Nat} {vs : List Value} {q : vw_C} {f : Nat → Option Nat} (he : lit[k]? = some (a, .inl (ca t, len, .inr (.inr (.inr (.inr f)))))) (ht : (ww_ty ca)[t]? = some (ca t, .object q.1)) (hv : lit[kv]? = some (v, .inr (ci, vs))) (hc : ww_cl[ci]? = some q) {i : Int32} (j : Nat) (hj : j < len) (hij : i = nI j) (hlen : len < 2 ^ 31) (hdg : decode cc pc = .ok (.aastore, 1))
    (kk : ∀ (H1 : Heap) (locs1 : List Loc), wl_N D (pre ++ lit.set k (a, .inl (ca t, len, .inr (.inr (.inr (.inr (va_up f j (some v)))))))) A s.heap H1 locs1 → W p l e R s m args below meth c H1 locs1 cells slots Q (F0 m (pc + 1) ls rest)) : W p l e R s m args below meth c H locs cells slots Q (F0 m pc ls (.ref v :: .int i :: .ref a :: rest)) := by
  obtain ⟨⟨hx, hb, hml, hown, hts⟩, hr, hlk, hK, hA, hSt⟩ := C
  obtain ⟨h1, h2⟩ := ww_ix hj hij hlen
  refine va_astq hx hb hK hN.1 hN.2.1 hN.2.2 (pre.length + k) t (pre.length + kv) ci ((pl_at k).trans he) ht ((pl_at kv).trans hv) hc h1 hdg (fun H1 locs1 hP hD hS => ?_)
  rw [pl_set, h2] at hP hD
  exact kk H1 locs1 ⟨hP, hD, hS⟩
theorem wl_A_in {ws : va_W} {sz q : Nat} (hD : va_D A ws) (hA : ∀ q, sz ≤ q → A q) (h : va_A ws sz q) : A q := by
  rcases h with ⟨k, e, h⟩ | h
  · exact hD.2 k _ h
  · exact hA q h
theorem ll_call {y : MethodName} {wd wd' : List Cond} {rm : Room} {h0 : Nat} {e0 : va_E} {av : List Value} {F : List Nat → va_W} {mc ms maxL index : Nat} {bytes : ByteArray} (C : ww_C D ca own cc nL Ts ret A p s m args meth c) (ho0 : va_AO RX0 s) (ho1 : va_AO RX1 s) (hN : wl_N D (pre ++ [(h0, e0)]) A s.heap H locs)
    (hM : wl_M l y wd rm D ca pre h0 e0 av F mc ms) (hg : GoodIn Ts wd) (hw : wd = Cond.code y bytes maxL none :: wd') (hrc : rm.cells = mc) (hrs : rm.slots = ms) (hini : Cond.initialized y.cls ∈ Ts) (hlk : Cond.methodLink own index y ∈ Ts) (hin : Cond.instanceMethod y ∈ Ts) (hy1 : y.name = "<init>") (nA : Nat)
    (hd : y.cls ≠ "java/lang/invoke/MethodHandle" ∧ y.cls ≠ "java/lang/invoke/VarHandle" ∧ (parseMethodDescriptor y.desc).map (fun d => d.parameters.length) = some nA) (hR : rm.frames + 1 ≤ R.frames ∧ 8 + (maxL + 11) + rm.locals ≤ R.locals)
    (hn : av.length = nA) (hls : ls.size = nL) {st0 : List Value} (hst : st0 = av.reverse ++ .ref h0 :: rest) (hroom : (rest.map fun v => v.category).sum ≤ 8) (hf : cells + mc ≤ R.cells ∧ slots + ms ≤ R.slots) (hdg : decode cc pc = .ok (.invokespecial index, 3))
    (kk : ∀ (qs : List Nat) (H1 : Heap) (locs1 : List Loc), wl_N D (pre ++ F qs) A s.heap H1 locs1 → W p l e R s m args below meth c H1 locs1 (cells + mc) (slots + ms) Q (F0 m (pc + 3) ls rest)) : W p l e R s m args below meth c H locs cells slots Q (F0 m pc ls st0) := by
  have hts := C.1.2.2.2.2
  have hr := va_runI (p := p) (e := e) (R := R) (below := below) (meth := meth) (H := H) (locs := locs) (cells := cells) (slots := slots) (g := F0 m pc ls st0) (As := av) (rest := rest) (b := h0) C.1 (hM H.size) (cwI nA hts hg hw hrc hrs (hts _ hini) (hts _ hlk) (hts _ hin) hy1 hd hR) ⟨fun a U g mk h => by
      obtain ⟨h1, h2, h3, h4, h5, h6, h7, h8⟩ := h
      exact ⟨h1, h2, h3, va_K.moved (u := U) (U := U.calling g mk a) (Vm.Alike.refl U.vm) h4, h5, ww_St.moved (u := U) (U := U.calling g mk a) (Vm.Alike.refl U.vm) h6, va_AO.moved (u := U) (U := U.calling g mk a) (Vm.Alike.refl U.vm) h7, va_AO.moved (u := U) (U := U.calling g mk a) (Vm.Alike.refl U.vm) h8⟩, fun U hU hW => by
      obtain ⟨⟨hx, hb, hml, hown, hts⟩, hr, hlk, hK, hA, hSt⟩ := C
      obtain ⟨hP, hD, hS⟩ := hN
      have hAA : ∀ q, va_A (pre ++ [(h0, e0)]) H.size q → A q := fun q h => wl_A_in hD (fun q h => hA q (Nat.le_trans hS.1 h)) h
      refine ⟨rfl, by rw [hU], by rw [hU]; exact hP, va_K.moved hW.alike hK, hD.self, ?_, va_AO.moved hW.alike ho0, va_AO.moved hW.alike ho1⟩
      rw [hU]
      exact (((hSt.kept (fun a h1 h2 => hS.2.1 a h1 h2)).narrow hAA)).moved hW.alike⟩ rfl hn hls hst (lv_room hroom) hdg hf
  intro T hT Y
  obtain ⟨v, st₀, t, T', L, g0, Y', hL, e1, e2, ⟨⟨qs, hv, hP1, hK1, hD1, hSt1, -, -⟩, hz, hk⟩, st⟩ := hr T hT Y
  cases hv
  obtain ⟨-, -, -, -, hA, -⟩ := C
  obtain ⟨hP, hD, hS⟩ := hN
  have hAA : ∀ q, va_A (pre ++ [(h0, e0)]) H.size q → A q := fun q h => wl_A_in hD (fun q h => hA q (Nat.le_trans hS.1 h)) h
  rw [g0] at hz hk
  rw [← e1] at hP1 hz
  obtain ⟨t2, a1, b1⟩ := kk qs T'.heap (locs ++ L) ⟨hP1, hD1.weaken (fun k q _ h => hAA _ h), Nat.le_trans hS.1 hz, fun q h1 h2 => by rw [e1, hk q (Nat.lt_of_lt_of_le h1 hS.1) (fun z => h2 (hAA q z))]; exact hS.2.1 q h1 h2, fun q hq => by
    rcases List.mem_append.mp hq with h | h
    · exact hS.2.2 q h
    · exact hAA _ (hL q h)⟩ T' rfl Y'
  exact ⟨t2, st t2 a1, b1⟩
theorem ll_vret {h0 : Nat} {e0 : va_E} {F : List Nat → va_W} (C : wl_C D ca own cc nL Ts A p s m args meth c) (hAe : A = va_A (pre ++ [(h0, e0)]) s.heap.size) (hN : wl_N D (pre ++ lit) A s.heap H locs) (qs : List Nat) (hF : F qs = lit) (hdg : decode cc pc = .ok (.return_, 1)) :
    W p l e R s m args below meth c H locs cells slots (MQ below (wl_Q D ca (pre ++ [(h0, e0)]) s.heap.size (fun qs => pre ++ F qs)) args s cells slots (va_A (pre ++ [(h0, e0)]) s.heap.size)) (F0 m pc ls []) := by
  obtain ⟨⟨⟨hx, hb, hml, hown, hts⟩, hr, hlk, hK, hA, hSt⟩, hnm, ho0, ho1⟩ := C
  subst hAe
  obtain ⟨hP, hD, hS⟩ := hN
  refine W.vret hx hb hr (fun t ht hW => ⟨⟨qs, rfl, ?_, va_K.moved hW.alike hK, ?_, ?_, va_AO.moved hW.alike ho0, va_AO.moved hW.alike ho1⟩, hS.F ht⟩) hS.2.2 hdg hlk
  · show va_P D ww_cl (pre ++ F qs) t.heap
    rw [hF, ht]; exact hP
  · show va_D _ (pre ++ F qs)
    rw [hF]; exact hD
  · rw [ht]; exact (hSt.kept (fun a h1 h2 => hS.2.1 a h1 h2)).moved hW.alike
end WL
