/-! the two methods that throw -/
def tn_x : List String := ["java/lang/IndexOutOfBoundsException", "java/lang/RuntimeException", "java/lang/Exception"]
/-- what a throw needs of the start -/
def tw_D : List MethodName := [Bundle.initS "java/lang/IndexOutOfBoundsException", Bundle.initS "java/lang/RuntimeException", Bundle.initS "java/lang/Exception", Bundle.initS Bundle.tN]
def tw_B : List Cond := tw_D.map Cond.declares ++ [.castable RJx00060 RJx00060]
theorem tw_Nd {d : MethodName} {s U : State} (hW : s.WarmedH U.vm) (hZ : va_Nw (.declares d) s) : va_Nw (.declares d) U := va_tabs rfl (rfl : (s.setVm U.vm).vm = U.vm) (by rw [Cond.declares_setVm hW.alike]; exact hZ)
def tt_X (A : Nat → Prop) (U : State) (H : Heap) : Prop := (∃ sa, vk_R RX4 70 "no such octet of a digest" sa U) ∧ (∃ sa, vk_R RX4 142 "no such bank or octet" sa U) ∧ vx_Zq Bundle.tN "UNASSIGNED_STACK" Bundle.steD A U H ∧ vx_Zq Bundle.tN "SUPPRESSED_SENTINEL" Bundle.listD A U H ∧ (∀ d ∈ tw_D, va_Nw (.declares d) U) ∧ va_Nw (.castable RJx00060 RJx00060) U
theorem tt_X.warm {A : Nat → Prop} {s U : State} {H : Heap} (hW : s.WarmedH U.vm) (h : tt_X A s H) : tt_X A U H := by
  obtain ⟨⟨a1, h1⟩, ⟨a2, h2⟩, h3, h4, h6, h5⟩ := h
  exact ⟨⟨a1, vk_R.warm hW h1⟩, ⟨a2, vk_R.warm hW h2⟩, vx_Zq.moved hW.alike h3, vx_Zq.moved hW.alike h4, fun d hd => tw_Nd hW (h6 d hd), va_Nw.warmC hW h5⟩
theorem tt_X.same {A : Nat → Prop} {s U : State} {H : Heap} (hv : U.vm = s.vm) (h : tt_X A s H) : tt_X A U H := by
  obtain ⟨⟨a1, h1⟩, ⟨a2, h2⟩, h3, h4, h6, h5⟩ := h
  have hal : s.vm.Alike U.vm := by rw [hv]; exact Vm.Alike.refl _
  exact ⟨⟨a1, vk_R.same hv h1⟩, ⟨a2, vk_R.same hv h2⟩, vx_Zq.moved hal h3, vx_Zq.moved hal h4, fun d hd => va_tabs rfl hv.symm (h6 d hd), va_tabs rfl hv.symm h5⟩
theorem tt_X.kept {A : Nat → Prop} {U : State} {H H1 : Heap} (h : tt_X A U H) (hq : ∀ a : Nat, a < H.size → ¬ A a → H1[a]? = H[a]?) : tt_X A U H1 := by
  obtain ⟨h1, h2, h3, h4, h5⟩ := h
  exact ⟨h1, h2, h3.kept hq, h4.kept hq, h5⟩
theorem tt_X.narrow {A B : Nat → Prop} {U : State} {H : Heap} (h : tt_X A U H) (hAB : ∀ q, B q → A q) : tt_X B U H := by
  obtain ⟨h1, h2, h3, h4, h5⟩ := h
  exact ⟨h1, h2, h3.narrow hAB, h4.narrow hAB, h5⟩
def tw_T : List Cond := (vx_atS RX4 72 RJx00060 tn_x).filter goodWord
theorem tw_bad : (vx_atS RX4 72 RJx00060 tn_x).filter (fun w => !goodWord w) = tw_B := by decide +kernel
theorem tw_ot : (Cond.classLink RX4 68 RJx00060 :: Cond.initialized RJx00060 :: vx_atS RX4 72 RJx00060 tn_x).all vx_ot = true := by decide +kernel
theorem tw_fit : tn_x.all Bundle.fit = true := by decide +kernel
/-- a method's words and those of the throw -/
def tw_W (ws0 : List Cond) : List Cond := ws0 ++ tw_T
/-- what a throw leaves -/
def tx_C (D : va_G) (ca : Nat → ClassId) (B : Nat → Nat) (N n : Nat) (u : ww_U) (X : va_W) (A : Nat → Prop) : String → State → State → Prop := vx_X (S := Unit) (fun _ => True) (fun E _ t => E = RJx00060 ∧ ww_Wd D ca B N n u X A t) A
def tx_Q (A : Nat → Prop) : Array Value → State → Outcome → State → Prop := va_Qi (S := Unit) (fun _ _ => False) (fun _ _ => True) A
theorem tw_go {p : Program} {l : Launch} {e : Env} {R : Room} {s : State} {m : MethodId} {args : Array Value} {below : List Frame} {meth : Method} {c : Code} {H : Heap} {locs : List Loc} {D : va_G} {ca : Nat → ClassId} {B : Nat → Nat} {N n : Nat} {u : ww_U} {X : va_W} {ws0 : List Cond} {cc : ByteArray} {nL pc is : Nat} {text : String} {ret : Option FieldType} {ls : Array Slot} {Qc : Array Value → State → Outcome → State → Prop}
    (hst : l.stackTraces = false) (C : ww_C D ca RX4 cc nL (tw_W ws0) ret (ww_A B N X s.heap.size) p s m args meth c) (hN : ww_N D ca B N n u X (ww_A B N X s.heap.size) s.heap H locs) (hT : tt_X (ww_A B N X s.heap.size) s s.heap) (hstr : ∃ sa, vk_R RX4 is text sa s)
    (hk : Cond.classLink RX4 68 RJx00060 ∈ ws0) (hini : Cond.initialized RJx00060 ∈ ws0) (hout : ∀ x ∈ c.exceptionTable.toList, False) (hsize : ls.size = nL)
    (d0 : decode cc pc = .ok (.new 68, 3)) (d3 : decode cc (pc + 3) = .ok (.dup, 1)) (d4 : decode cc (pc + 4) = .ok (.ldc is, 2)) (d6 : decode cc (pc + 6) = .ok (.invokespecial 72, 3)) (d9 : decode cc (pc + 9) = .ok (.athrow, 1))
    (hR : 6 < R.frames ∧ 95 ≤ R.locals ∧ 1 ≤ R.cells ∧ 6 ≤ R.slots) :
    W p l e R s m args below meth c H locs 0 0 (vx_MQ below Qc (tx_C D ca B N n u X (ww_A B N X s.heap.size)) args s 1 6 (ww_A B N X s.heap.size)) (F0 m pc ls []) := by
  obtain ⟨⟨hx, hb, hml, hown, hts⟩, hr, hlk, hK, hA, hSt⟩ := C
  obtain ⟨-, -, hU, hNN, hde, hca⟩ := hT
  obtain ⟨hP, hD, hS⟩ := hN
  obtain ⟨sa, hstr⟩ := hstr
  have hts0 : ∀ w ∈ ws0, w.before args s = true := fun w h => hts w (List.mem_append_left _ h)
  refine vx_throwS (names := tn_x) (cls := RJx00060) (A := ww_A B N X s.heap.size) hx hb hst hown (by decide +kernel) (fun q h => List.all_eq_true.mp tw_fit q h) (hts0 _ hk) (hts0 _ hini) hstr ?_ (fun w h => List.all_eq_true.mp tw_ot w h) hU hNN hS (hsize.trans hml.symm) d0 d3 d4 d6 d9 (fun x h => absurd h (fun h => hout x h)) hR.1 hR.2.1 hR.2.2.1 hR.2.2.2 hlk ?_ hS.2.2 (Nat.le_refl _) (Nat.le_refl _)
  · refine vx_hat (B := tw_B) (fun w h => hts w (List.mem_append_right _ h)) (fun w h => by rw [tw_bad] at h; exact h) ?_
    intro w h
    rcases List.mem_append.mp h with h | h
    · obtain ⟨d, hd, rfl⟩ := List.mem_map.mp h
      exact va_Nw.use rfl (hde d hd)
    · rw [List.mem_singleton.mp h]
      exact va_Nw.use rfl hca
  · intro t hal hz hk
    have hP1 : va_P D ww_cl (ww_l ca B N n u X) t.heap := hP.kept (fun k q h => hk q.1 (vx_lt hP h))
    have hk2 : ∀ a : Nat, a < s.heap.size → ¬ ww_A B N X s.heap.size a → t.heap[a]? = s.heap[a]? := fun a h1 h2 => (hk a (Nat.lt_of_lt_of_le h1 hS.1)).trans (hS.2.1 a h1 h2)
    exact ⟨(), trivial, ⟨rfl, hP1, va_K.moved hal hK, hD, (hSt.kept hk2).moved hal⟩, Nat.le_trans hS.1 hz, hk2⟩
set_option maxHeartbeats 4000000 in
set_option maxRecDepth 100000 in
theorem wt_X4_digest (l : Launch) (hst : l.stackTraces = false) {D : va_G} {ca : Nat → ClassId} {B : Nat → Nat} {N n : Nat} {X : va_W} {u : ww_U} {x : Int32} (h : u 29 2 = 0 ∨ x < 0 ∨ ¬ x < 32) (hNB : 36 ≤ N) : ∀ sz : Nat, vx_Met l yX4_digest (tw_W wsX4_digest) ({ frames := 7, cells := 1, slots := 6, locals := 95 } : Room) (va_Pc [.ref (B 29), .int x] (fun U => U.heap.size = sz ∧ ww_Wd D ca B N n u X (ww_A B N X sz) U ∧ tt_X (ww_A B N X sz) U U.heap)) (tx_Q (ww_A B N X sz)) (tx_C D ca B N n u X (ww_A B N X sz)) 1 6 (ww_A B N X sz) := by
  intro sz
  refine vx_ofW (cc := cX4_digest) (maxL := 2) (ret := some .byte) (by decide) rfl ?_
  intro p e s m args below meth c s₁ Bd hml hx0 hv
  obtain ⟨rfl, hsz, ⟨hP, hK, hD, hSt⟩, hT⟩ := hv
  subst hsz
  have hl := lv_entry ([.ref (B 29), .int x]) (n := 2) (Nat.le_of_ble_eq_true rfl)
  rw [lg_entry_eq]
  generalize (lg_sl ([.ref (B 29), .int x]) ++ List.replicate (2 - (lg_sl ([.ref (B 29), .int x])).length) Slot.unset).toArray = ls at hl ⊢
  have hl : lv_has ls 2 [(0, .ref (B 29)), (1, .int x)] := hl
  have C : ww_C D ca RX4 cX4_digest 2 (tw_W wsX4_digest) (some .byte) (ww_A B N X s.heap.size) p s m ([.ref (B 29), .int x] : List Value).toArray meth c := ⟨⟨Bd.exec, Bd.bytes, hml, findClass_of_methodNamed Bd.named, atoms_spec (ws := tw_W wsX4_digest) Bd.pre⟩, Bd.returns, Bd.notSynchronized, hK, fun q h => Or.inr (Or.inr h), hSt⟩
  have hN : ww_N D ca B N n u X (ww_A B N X s.heap.size) s.heap s.heap [] := ⟨hP, hD, va_S.rf⟩
  have hx := C.1.1
  have hb := C.1.2.1
  have kw : ww_K (tw_W wsX4_digest) RX4 TX4 8 tyX4 := ⟨fun w h => List.mem_append_left _ (kw_X4_digest_X4.1 w h), kw_X4_digest_X4.2⟩
  have K := tw_go (l := l) (e := e) (below := below) (pc := 17) (is := 70) (ls := ls) (Qc := tx_Q (ww_A B N X s.heap.size)) (R := (headSpec (tw_W wsX4_digest) ({ frames := 7, cells := 1, slots := 6, locals := 95 } : Room)).room) hst C hN hT hT.1 (List.mem_of_getElem? (i := 2) rfl) (List.mem_of_getElem? (i := 4) rfl) hx0 hl.1 dX4_digest_17 dX4_digest_20 dX4_digest_21 dX4_digest_23 dX4_digest_26 ⟨Nat.le_of_ble_eq_true rfl, Nat.le_of_ble_eq_true rfl, Nat.le_of_ble_eq_true rfl, Nat.le_of_ble_eq_true rfl⟩
  refine lv_aload_n hx hb dX4_digest_0 rfl (lv_at hl 0 rfl) ?_
  refine rr_get C hN 29 (by omega) rfl rfl kw 2 (by decide) (List.mem_append_left _ (List.mem_of_getElem? (i := 1) rfl)) (v := .int (u 29 2)) rfl dX4_digest_1 ?_
  refine lv_if_eq (tgt := 17) hx hb dX4_digest_4 (by decide) (fun _ => K) (fun c_4 => ?_)
  refine lv_iload_n hx hb dX4_digest_7 rfl (lv_at hl 1 rfl) ?_
  refine lv_if_lt (tgt := 17) hx hb dX4_digest_8 (by decide) (fun _ => K) (fun c_8 => ?_)
  refine lv_iload_n hx hb dX4_digest_11 rfl (lv_at hl 1 rfl) ?_
  refine lv_bipush (v := 32) hx hb dX4_digest_12 (by decide) ?_
  exact lv_icmp_lt (tgt := 27) hx hb dX4_digest_14 (by decide) (fun c_14 => by rcases h with h | h | h; exact absurd h c_4; exact absurd h c_8; exact absurd c_14 h) (fun _ => K)
theorem gT_X4_bank_find : GoodIn (tw_W wsX4_bank) (wsV RX4 43 RX4 yX4_find wsX4_find) := fun w h => ⟨List.mem_append_left _ (gX4_bank_X4_find w h).1, (gX4_bank_X4_find w h).2⟩
set_option maxHeartbeats 4000000 in
set_option maxRecDepth 100000 in
theorem wt_X4_bank (l : Launch) (hst : l.stackTraces = false) {D : va_G} {ca : Nat → ClassId} {B : Nat → Nat} {N n : Nat} {X : va_W} {u : ww_U} {x : Int32} (j : Nat) (hj : j < 8) (hj2 : j < n) (hxj : x = nI (j + 1)) (hx1 : ¬ x < 1) (hx2 : x ≤ u 29 1) {y : Int32} {i : Int64} (h : y < 0 ∨ 2 ≤ y ∨ i < 0 ∨ ¬ i < 256) (hNn : 36 + 8 * n ≤ N) : ∀ sz : Nat, vx_Met l yX4_bank (tw_W wsX4_bank) ({ frames := 7, cells := 1, slots := 6, locals := 95 } : Room) (va_Pc [.ref (B 29), .int x, .int y, .long i] (fun U => U.heap.size = sz ∧ ww_Wd D ca B N n u X (ww_A B N X sz) U ∧ tt_X (ww_A B N X sz) U U.heap)) (tx_Q (ww_A B N X sz)) (tx_C D ca B N n u X (ww_A B N X sz)) 1 6 (ww_A B N X sz) := by
  intro sz
  refine vx_ofW (cc := cX4_bank) (maxL := 6) (ret := some .byte) (by decide) rfl ?_
  intro p e s m args below meth c s₁ Bd hml hx0 hv
  obtain ⟨rfl, hsz, ⟨hP, hK, hD, hSt⟩, hT⟩ := hv
  subst hsz
  have hl := lv_entry ([.ref (B 29), .int x, .int y, .long i]) (n := 6) (Nat.le_of_ble_eq_true rfl)
  rw [lg_entry_eq]
  generalize (lg_sl ([.ref (B 29), .int x, .int y, .long i]) ++ List.replicate (6 - (lg_sl ([.ref (B 29), .int x, .int y, .long i])).length) Slot.unset).toArray = ls at hl ⊢
  have hl : lv_has ls 6 [(0, .ref (B 29)), (1, .int x), (2, .int y), (3, .long i)] := hl
  have C : ww_C D ca RX4 cX4_bank 6 (tw_W wsX4_bank) (some .byte) (ww_A B N X s.heap.size) p s m ([.ref (B 29), .int x, .int y, .long i] : List Value).toArray meth c := ⟨⟨Bd.exec, Bd.bytes, hml, findClass_of_methodNamed Bd.named, atoms_spec (ws := tw_W wsX4_bank) Bd.pre⟩, Bd.returns, Bd.notSynchronized, hK, fun q h => Or.inr (Or.inr h), hSt⟩
  have hN : ww_N D ca B N n u X (ww_A B N X s.heap.size) s.heap s.heap [] := ⟨hP, hD, va_S.rf⟩
  have hx := C.1.1
  have hb := C.1.2.1
  have hNB : 36 ≤ N := by omega
  refine lv_aload_n hx hb dX4_bank_0 rfl (lv_at hl 0 rfl) ?_
  refine lv_iload_n hx hb dX4_bank_1 rfl (lv_at hl 1 rfl) ?_
  refine rr_callV (As := [.int x]) C hN 29 (by omega) rfl rfl rfl (ct_X4_find l j hj hj2 hxj hNn hx1 hx2) gT_X4_bank_find rfl rfl rfl 1 (by decide +kernel) ⟨Nat.le_of_ble_eq_true rfl, Nat.le_of_ble_eq_true rfl⟩ rfl hl.1 rfl (Nat.le_of_ble_eq_true rfl) ⟨Nat.zero_le _, Nat.zero_le _⟩ dX4_bank_2 (fun H locs hN => ?_)
  refine lv_astore (lv' := [(5, .ref (B (kC j))), (0, .ref (B 29)), (1, .int x), (2, .int y), (3, .long i)]) hx hb dX4_bank_5 hl (by decide) rfl (fun ls hl => ?_)
  have K := tw_go (l := l) (e := e) (below := below) (pc := 37) (is := 142) (ls := ls) (Qc := tx_Q (ww_A B N X s.heap.size)) (R := (headSpec (tw_W wsX4_bank) ({ frames := 7, cells := 1, slots := 6, locals := 95 } : Room)).room) hst C hN hT hT.2.1 (List.mem_of_getElem? (i := 2) rfl) (List.mem_of_getElem? (i := 4) rfl) hx0 hl.1 dX4_bank_37 dX4_bank_40 dX4_bank_41 dX4_bank_43 dX4_bank_46 ⟨Nat.le_of_ble_eq_true rfl, Nat.le_of_ble_eq_true rfl, Nat.le_of_ble_eq_true rfl, Nat.le_of_ble_eq_true rfl⟩
  refine lv_aload hx hb dX4_bank_7 (lv_at hl 0 rfl) ?_
  refine lv_ifnonnull (tgt := 14) hx hb dX4_bank_9 (by decide) ?_
  refine lv_iload_n hx hb dX4_bank_14 rfl (lv_at hl 3 rfl) ?_
  refine lv_if_lt (tgt := 37) hx hb dX4_bank_15 (by decide) (fun _ => K) (fun c_15 => ?_)
  refine lv_iload_n hx hb dX4_bank_18 rfl (lv_at hl 3 rfl) ?_
  refine lv_iconst (v := 2) hx hb dX4_bank_19 (by decide) ?_
  refine lv_icmp_ge (tgt := 37) hx hb dX4_bank_20 (by decide) (fun _ => K) (fun c_20 => ?_)
  refine lv_lload_n hx hb dX4_bank_23 rfl (lv_at hl 4 rfl) ?_
  refine lv_lconst (v := 0) hx hb dX4_bank_24 (by decide) ?_
  refine W.lcmp hx hb dX4_bank_25 ?_
  refine lv_topi (fun v1 ev1 => ?_)
  refine lv_if_lt (tgt := 37) hx hb dX4_bank_26 (by decide) (fun _ => K) (fun c_26 => ?_)
  refine lv_lload_n hx hb dX4_bank_29 rfl (lv_at hl 4 rfl) ?_
  refine lv_ldc2 (v := 256) hx hb C.1.2.2.2.1 (C.1.2.2.2.2 _ (List.mem_append_left _ (List.mem_of_getElem? (i := 1) rfl))) dX4_bank_30 ?_
  refine W.lcmp hx hb dX4_bank_33 ?_
  refine lv_topi (fun v2 ev2 => ?_)
  refine lv_if_lt (tgt := 47) hx hb dX4_bank_34 (by decide) (fun c_34 => ?_) (fun _ => K)
  rw [ev1, lg_cmp_lt] at c_26
  rw [ev2, lg_cmp_lt] at c_34
  rcases h with h | h | h | h
  · exact absurd h c_15
  · exact absurd h c_20
  · exact absurd h c_26
  · exact absurd c_34 h
