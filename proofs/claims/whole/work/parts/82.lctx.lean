/-! THE CLAIM OUT OF ONE WALK OF THE LAW'S BODY. Your part is whole_start (and what it stands on); all else here is the same for every law, but numbers. -/
def R_law : String := "UpdatePacksLaw"
def lw_P (b : Addr) (xs : List Int32) (args : Array Value) (s : State) : Prop := args = #[.ref b] ∧ s.IntsAt b xs ∧ xs.length ≤ 2560 ∧ (Jvm.Cond.and given_1 narrow_1).before args s = true
def lw_Q (_ : Array Value) (s : State) (o : Outcome) (t : State) : Prop := o = .returned (some (.int 1)) ∧ Framed s o t [] 603072 7198826
def lw_Z (below : List Frame) (a : Array Value) (s : State) : State → Prop := fun t => ∃ o, t.status = .running ∧ Ended t below o ∧ lw_Q a s o t
/-- the law's own end, with 1 on the stack, nothing written that was there before, its room as the claim has it -/
theorem lw_ret {p : Program} {l : Launch} {e : Env} {s : State} {m : MethodId} {below : List Frame} {meth : Method} {c : Code} {b : Nat} (hx : p.tables.exec = Jvm.exec) (hb : c.code = code) (hr : meth.sig.returnType = ret) (hlocks : meth.locks = false) {pc : Nat} {H : Heap} {ls : Array Slot} (hdg : decode code pc = .ok (.ireturn, 1)) : W p l e room_1 s m #[Value.ref b] below meth c H [] 603072 7198826 (lw_Z below #[Value.ref b] s) (F0 m pc ls [.int 1]) := by
  intro T hT X
  obtain ⟨fs, hret, hrun, hended, hW, hframe⟩ := X.leave (v := some (.int 1)) (hlocks := hlocks) (fun h => by rw [hr] at h; cases h)
  have hmeth' : T.vm.method? m = some meth := X.method'
  refine ⟨T.setFrames fs, ?_, .returned (some (.int 1)), hrun, hended, rfl, ⟨_, rfl⟩, hW, hframe⟩
  jvm_step X.here [X.here.top, hx, hb, hdg, hmeth', hr, ret, narrow_b1]
  (try refine ⟨rfl, ?_⟩); (try refine ⟨rfl, ?_⟩)
  first | (intro acts; rw [hret _ acts rfl rfl rfl]) | rw [hret _ _ rfl rfl rfl]
  exact Steps.refl _
/-- what holds at the law's entry: the machine, the code, the tables' words (any of lw_tbl by 'hts w (by decide +kernel)'), the script of L ints xs at the cell b, what the Statement gives of the start (any of its parts by flat_of_before) -/
def lw_At (p : Program) (s : State) (m : MethodId) (meth : Method) (c : Code) (b L : Nat) (xs : Nat → Int32) : Prop :=
  p.tables.exec = Jvm.exec ∧ c.code = code ∧ meth.sig.returnType = ret ∧ c.maxLocals = 7 ∧ s.vm.findClass R_law = some m.cls ∧ (∀ w ∈ lw_tbl, w.before #[Value.ref b] s = true) ∧ va_X b L xs s s.heap ∧ b < s.heap.size ∧ meth.locks = false ∧ (Jvm.Cond.and given_1 narrow_1).before #[Value.ref b] s = true
/-! the law: what stays, its loop's invariant, the calls that make cells -/
def lf_F (D : va_G) (ca : Nat → ClassId) (cG : ClassId) (l : Launch) (p : Program) (s : State) (m : MethodId) (b L : Nat) (xs : Nat → Int32) (meth : Method) (c : Code) (t : Nat) : Prop :=
  ww_C D ca RL code 7 lw_tbl ret (fun q => s.heap.size ≤ q) p s m #[Value.ref b] meth c ∧ va_K D ww_cl (ww_ty ca ++ [(cG, .long)]) s ∧ tt_X (fun q => s.heap.size ≤ q) s s.heap ∧ (va_AO RX0 s ∧ va_AO RX1 s) ∧ va_X b L xs s s.heap ∧ b < s.heap.size ∧ L ≤ 2560 ∧ 5 * t + 5 ≤ L ∧ l.stackTraces = false
def lf_I (D : va_G) (ca : Nat → ClassId) (cG : ClassId) (s : State) (b x0 m0 ao i n : Nat) (B : Nat → Nat) (u : ww_U) (f : Nat → Int64) (ls : Array Slot) (H : Heap) (locs : List Loc) : Prop :=
  (∃ P, Rel n P u u) ∧ ww_N D ca B (36 + 8 * n) n u (ld_X ao cG f) (fun q => s.heap.size ≤ q) s.heap H locs ∧ lv_has ls 7 [(0, .ref b), (1, .ref x0), (2, .ref m0), (3, .ref ao), (4, .int (nI i))] ∧ B 29 = x0 ∧ B 0 = m0
def lf_K (D : va_G) (ca : Nat → ClassId) (cG : ClassId) (l : Launch) (p : Program) (e : Env) (s : State) (m : MethodId) (below : List Frame) (meth : Method) (c : Code) (b x0 m0 ao t : Nat) : Prop :=
  ∀ (n : Nat) (B : Nat → Nat) (u : ww_U) (f : Nat → Int64) (ls : Array Slot) (H : Heap) (locs : List Loc), lf_I D ca cG s b x0 m0 ao (5 * t) n B u f ls H locs →
    W p l e room_1 s m #[Value.ref b] below meth c H locs (40 + 10 * (t + 1)) (22000 + 1200 * (t + 1)) (lw_Z below #[Value.ref b] s) (F0 m 703 ls [])
theorem lf_in {t L k : Nat} {x : Int32} (hx : x = nI k) (hk : 5 * t + k < L) (hL : L ≤ 2560) : vp_in (nI (5 * t) + x) L := by
  rw [hx, nI_add]
  exact nI_in hk (by omega)
theorem lf_fit {t L : Nat} (ht : 5 * t + 5 ≤ L) (hL : L ≤ 2560) : 40 + 10 * t + 8 ≤ room_1.cells ∧ 22000 + 1200 * t + 794 ≤ room_1.slots := ⟨by show 40 + 10 * t + 8 ≤ 603072; omega, by show 22000 + 1200 * t + 794 ≤ 7198826; omega⟩
section LC
variable {p : Program} {l : Launch} {e : Env} {R : Room} {s : State} {m : MethodId} {args : Array Value} {below : List Frame} {meth : Method} {c : Code} {H : Heap} {locs : List Loc} {cells slots : Nat} {Q : State → Prop}
variable {D : va_G} {ca : Nat → ClassId} {own : String} {cc : ByteArray} {nL : Nat} {Ts : List Cond} {ret : Option FieldType} {A : Nat → Prop} {B : Nat → Nat} {N n : Nat} {u : ww_U} {X : va_W} {pc : Nat} {ls : Array Slot} {rest : List Value}
theorem ld_call {y : MethodName} {ws ws' : List Cond} {rm : Room} {As : List Value} {k : Int32} {f f' : Nat → Int64} {ao mc ms : Nat} {cG : ClassId} {bytes : ByteArray} {maxL index : Nat} {rt : Option FieldType} {hh : List (Nat × Nat × Nat × Nat)} (C : ww_C D ca own cc nL Ts ret A p s m args meth c) (hKG : va_K D ww_cl (ww_ty ca ++ [(cG, .long)]) s) (tX : tt_X A s s.heap) (hN : ww_N D ca B N n u (ld_X ao cG f) A s.heap H locs)
    (hM : ld_M l y ws rm D ca B N n u ao cG f As k f' mc ms) (hg : GoodIn Ts (va_wsS own index y ws)) (hw : ws = Cond.codeWith y bytes maxL rt hh :: ws') (hrc : rm.cells = mc) (hrs : rm.slots = ms) (nA : Nat)
    (hd : y.cls ≠ "java/lang/invoke/MethodHandle" ∧ y.cls ≠ "java/lang/invoke/VarHandle" ∧ (parseMethodDescriptor y.desc).map (fun d => d.parameters.length) = some nA) (hR : rm.frames + 1 ≤ R.frames ∧ 8 + (maxL + 11) + rm.locals ≤ R.locals)
    (hn : As.length = nA) (hls : ls.size = nL) {st0 : List Value} (hst : st0 = As.reverse ++ rest) (hroom : (rest.map fun v => v.category).sum ≤ 8) (hf : cells + mc ≤ R.cells ∧ slots + ms ≤ R.slots) (hdg : decode cc pc = .ok (.invokestatic index, 3))
    (kk : ∀ (H1 : Heap) (locs1 : List Loc), ww_N D ca B N n u (ld_X ao cG f') A s.heap H1 locs1 → W p l e R s m args below meth c H1 locs1 (cells + mc) (slots + ms) Q (F0 m (pc + 3) ls (.int k :: rest))) : W p l e R s m args below meth c H locs cells slots Q (F0 m pc ls st0) := by
  have hr := vx_runSW (p := p) (e := e) (R := R) (below := below) (meth := meth) (H := H) (locs := locs) (cells := cells) (slots := slots) (g := F0 m pc ls st0) (As := As) (rest := rest) C.1 (hM H.size) (vx_cwSW nA C.1.2.2.2.2 hg hw hrc hrs hd hR) ⟨ld_blindK, fun U hU hW => by
      have z := ww_pre C hN hU hW
      obtain ⟨⟨hx, hb, hml, hown, hts⟩, hr, hlk, hK, hA, hSt⟩ := C
      obtain ⟨hP, hD, hS⟩ := hN
      refine ⟨rfl, z.1, z.2, va_K.moved hW.alike hKG, ?_⟩
      have h1 : tt_X A s H := tX.kept (fun a h1 h2 => hS.2.1 a h1 h2)
      have h2 : tt_X (ww_A B N (ld_X ao cG f) H.size) s H := h1.narrow (fun q h => ww_A_in hD (fun q h => hA q (Nat.le_trans hS.1 h)) h)
      rw [hU]
      exact h2.warm hW⟩ rfl hn hls hst (lv_room hroom) hdg hf
  intro T hT Y
  obtain ⟨v, st₀, t, T', L, h0, Y', hL, e1, e2, ⟨⟨hv, hP1, hK1, hD1, hSt1⟩, hz, hk⟩, st⟩ := hr T hT Y
  cases hv
  obtain ⟨-, -, -, -, hA, -⟩ := C
  obtain ⟨hP, hD, hS⟩ := hN
  have hAA : ∀ q, ww_A B N (ld_X ao cG f) H.size q → A q := fun q h => ww_A_in hD (fun q h => hA q (Nat.le_trans hS.1 h)) h
  rw [h0] at hz hk
  rw [← e1] at hP1 hz
  obtain ⟨t2, a1, b1⟩ := kk T'.heap (locs ++ L) ⟨hP1, hD1.weaken (fun k q _ h => hAA _ h), Nat.le_trans hS.1 hz, fun q h1 h2 => by rw [e1, hk q (Nat.lt_of_lt_of_le h1 hS.1) (fun z => h2 (hAA q z))]; exact hS.2.1 q h1 h2, fun q hq => by
    rcases List.mem_append.mp hq with h | h
    · exact hS.2.2 q h
    · exact hAA _ (hL q h)⟩ T' rfl Y'
  exact ⟨t2, st t2 a1, b1⟩
theorem ct_call {hw : Int32} {index : Nat} (C : ww_C D ca own cc nL Ts ret A p s m args meth c) (ho0 : va_AO RX0 s) (ho1 : va_AO RX1 s) (hN : ww_N D ca B (36 + 8 * n) n u X A s.heap H locs) (h1 : ¬ hw < 1) (h2 : hw ≤ 127) (hn8 : n < 8) (hc : u 29 1 = nI n)
    (hg : GoodIn Ts (wsV own index RX4 yX4_controller wsX4_controller)) (hR : 3 + 1 ≤ R.frames ∧ 8 + (2 + 11) + 61 ≤ R.locals) (hls : ls.size = nL) {st0 : List Value} (hst : st0 = [Value.int hw].reverse ++ .ref (B 29) :: rest) (hroom : (rest.map fun v => v.category).sum ≤ 8) (hf : cells + 8 ≤ R.cells ∧ slots + 794 ≤ R.slots) (hdg : decode cc pc = .ok (.invokevirtual index, 3))
    (kk : ∀ (B' : Nat → Nat) (H1 : Heap) (locs1 : List Loc), (∀ k, k < 36 + 8 * n → B' k = B k) → ww_N D ca B' (36 + 8 * (n + 1)) (n + 1) (cu_new u n hw) X A s.heap H1 locs1 → W p l e R s m args below meth c H1 locs1 (cells + 8) (slots + 794) Q (F0 m (pc + 3) ls (.int (nI (n + 1)) :: rest))) : W p l e R s m args below meth c H locs cells slots Q (F0 m pc ls st0) := by
  have hr := va_runV (p := p) (e := e) (R := R) (below := below) (meth := meth) (H := H) (locs := locs) (cells := cells) (slots := slots) (g := F0 m pc ls st0) (As := [Value.int hw]) (rest := rest) (b := B 29) C.1 (wc_X4_controller l (D := D) (ca := ca) (B := B) (X := X) hw h1 h2 hn8 hc H.size) (cwV 1 C.1.2.2.2.2 hg rfl rfl rfl (by decide +kernel) hR) ⟨fun a U g mk h => by
      obtain ⟨h1, h2, ⟨h3, h4, h5, h6⟩, h7, h8⟩ := h
      exact ⟨h1, h2, ⟨h3, va_K.moved (u := U) (U := U.calling g mk a) (Vm.Alike.refl U.vm) h4, h5, ww_St.moved (u := U) (U := U.calling g mk a) (Vm.Alike.refl U.vm) h6⟩, va_AO.moved (u := U) (U := U.calling g mk a) (Vm.Alike.refl U.vm) h7, va_AO.moved (u := U) (U := U.calling g mk a) (Vm.Alike.refl U.vm) h8⟩, va_recv C.2.2.2.1 hN.1 (ci := 4) (q0 := 29) (fs := ww_fu B (u 29)) rfl ((ww_at (by omega)).trans rfl), fun U hU hW => by
      have z := ww_pre C hN hU hW
      exact ⟨rfl, z.1, z.2, va_AO.moved hW.alike ho0, va_AO.moved hW.alike ho1⟩⟩ rfl rfl hls hst (lv_room hroom) hdg hf
  intro T hT Y
  obtain ⟨v, st₀, t, T', L, h0, Y', hL, e1, e2, ⟨⟨B', hB, hv, hP1, hK1, hD1, hSt1⟩, hz, hk⟩, st⟩ := hr T hT Y
  cases hv
  obtain ⟨-, -, -, -, hA, -⟩ := C
  obtain ⟨hP, hD, hS⟩ := hN
  have hAA : ∀ q, ww_A B (36 + 8 * n) X H.size q → A q := fun q h => ww_A_in hD (fun q h => hA q (Nat.le_trans hS.1 h)) h
  rw [h0] at hz hk
  rw [← e1] at hP1 hz
  obtain ⟨t2, a1, b1⟩ := kk B' T'.heap (locs ++ L) hB ⟨hP1, hD1.weaken (fun k q _ h => hAA _ h), Nat.le_trans hS.1 hz, fun q h1 h2 => by rw [e1, hk q (Nat.lt_of_lt_of_le h1 hS.1) (fun z => h2 (hAA q z))]; exact hS.2.1 q h1 h2, fun q hq => by
    rcases List.mem_append.mp hq with h | h
    · exact hS.2.2 q h
    · exact hAA _ (hL q h)⟩ T' rfl Y'
  exact ⟨t2, st t2 a1, b1⟩
end LC
