/-! the law's own digest and bank -/
def ld_X (ao : Nat) (cG : ClassId) (f : Nat → Int64) : va_W := [(ao, .inl (cG, 1, .inr (.inl f)))]
def ld_P (D : va_G) (ca : Nat → ClassId) (B : Nat → Nat) (N n : Nat) (u : ww_U) (ao : Nat) (cG : ClassId) (f : Nat → Int64) (sz : Nat) (U : State) : Prop := U.heap.size = sz ∧ ww_Wd D ca B N n u (ld_X ao cG f) (ww_A B N (ld_X ao cG f) sz) U ∧ va_K D ww_cl (ww_ty ca ++ [(cG, .long)]) U ∧ tt_X (ww_A B N (ld_X ao cG f) sz) U U.heap
def ld_M (l : Launch) (y : MethodName) (ws : List Cond) (rm : Room) (D : va_G) (ca : Nat → ClassId) (B : Nat → Nat) (N n : Nat) (u : ww_U) (ao : Nat) (cG : ClassId) (f : Nat → Int64) (av : List Value) (k : Int32) (f' : Nat → Int64) (mc ms : Nat) : Prop :=
  ∀ sz : Nat, Met l y ws rm (va_Pc av (ld_P D ca B N n u ao cG f sz)) (fun _ st oc t => (oc = .returned (some (.int k)) ∧ ww_Wd D ca B N n u (ld_X ao cG f') (ww_A B N (ld_X ao cG f) sz) t) ∧ va_F (ww_A B N (ld_X ao cG f) sz) st t) mc ms (ww_A B N (ld_X ao cG f) sz)
theorem ld_ofW {l : Launch} {y : MethodName} {ws ws' : List Cond} {rm : Room} {Pc : Array Value → State → Prop} {Qc : Array Value → State → Outcome → State → Prop} {mc ms : Nat} {free : Addr → Prop} {cc : ByteArray} {maxL : Nat} {ret : Option FieldType} {hh : List (Nat × Nat × Nat × Nat)}
    (hy : plainName y.cls = true) (hw : ws = Cond.codeWith y cc maxL ret hh :: ws')
    (body : ∀ p e s m args below meth c s₁, BodyLoose p l y (headSpec ws rm) cc maxL ret e s m args below meth c s₁ → c.maxLocals = maxL → c.exceptionTable.toList = tableOf hh → Pc args s →
      W p l e (headSpec ws rm).room s m args below meth c s.heap [] 0 0 (MQ below Qc args s mc ms free) (entryFrame m args maxL)) : Met l y ws rm Pc Qc mc ms free := by
  refine MetFree.of_bodyS (code := cc) (maxLocals := maxL) (ret := ret) hy ?_ ?_
  · intro args s m h hn
    obtain ⟨m9, meth, c, hn9, h1, h2, h3, h4, -, h5, h6, -⟩ := Cond.codeWith_spec (atoms_spec (ws := ws) h _ (by rw [hw]; exact List.mem_cons_self))
    cases hn.symm.trans hn9
    exact ⟨meth, c, h1, h2, h3, h4, h5, h6⟩
  · intro p e s m args below meth c s₁ Bd hml hP _
    have hh0 : s₁.heap = s.heap := by rw [Bd.state]; rfl
    have ht : c.exceptionTable.toList = tableOf hh := vx_table (x := y) Bd (atoms_spec (ws := ws) Bd.pre _ (by rw [hw]; exact List.mem_cons_self))
    obtain ⟨t, a1, o, b1, b2, b3⟩ := body p e s m args below meth c s₁ Bd hml ht hP s₁ hh0 (Stand.of_body Bd)
    exact ⟨t, o, a1, b1, b2, ⟨b3.1, b3.2⟩⟩
theorem ld_at {ca : Nat → ClassId} {B : Nat → Nat} {N n : Nat} {u : ww_U} {ao : Nat} {cG : ClassId} {f : Nat → Int64} : (ww_l ca B N n u (ld_X ao cG f))[N]? = some (ao, .inl (cG, 1, .inr (.inl f))) := by
  unfold ww_l ld_X
  rw [List.getElem?_append_right (by simp)]
  simp
theorem ld_set {ca : Nat → ClassId} {B : Nat → Nat} {N n : Nat} {u : ww_U} {ao : Nat} {cG : ClassId} {f f' : Nat → Int64} : (ww_l ca B N n u (ld_X ao cG f)).set N (ao, .inl (cG, 1, .inr (.inl f'))) = ww_l ca B N n u (ld_X ao cG f') := by
  unfold ww_l ld_X
  simp [List.set_append]
theorem tw_Tg {big : List Cond} (h : ∀ w ∈ tw_T, w ∈ big) : GoodIn big tw_T := goodIn_sub h (by decide +kernel)
theorem goodIn_up {big b2 ws : List Cond} (h : GoodIn big ws) : GoodIn (big ++ b2) ws := fun w hw => ⟨List.mem_append_left _ (h w hw).1, (h w hw).2⟩
set_option maxRecDepth 20000 in
theorem ggL_digest_X4_digest : GoodIn wsL_digest wsX4_digest := goodIn_ca (goodIn_r _ [6, 7, 8, 9, 10, 11, 12, 13, 14, 15, 16, 17, 18, 19, 20, 21, 22, 23, 24, 25, 26, 27, 28, 29, 30, 31, 32, 33, 34] (by decide +kernel) (by decide +kernel)) (goodIn_sub (fun _ h => List.mem_cons_of_mem _ (List.mem_append_right _ h)) (by decide +kernel))
set_option maxRecDepth 20000 in
theorem gL_digest_X4_digest : GoodIn wsL_digest (wsV RL 7 RX4 yX4_digest wsX4_digest) := goodIn_app (goodIn_of _ (by decide +kernel)) ggL_digest_X4_digest
theorem gt_digest : GoodIn (tw_W wsL_digest) (wsV RL 7 RX4 yX4_digest (tw_W wsX4_digest)) := fun w h => by
  rcases List.mem_append.mp h with h | h
  · exact goodIn_up gL_digest_X4_digest w (List.mem_append_left _ h)
  · rcases List.mem_append.mp h with h | h
    · exact goodIn_up gL_digest_X4_digest w (List.mem_append_right _ h)
    · exact tw_Tg (fun w h => List.mem_append_right _ h) w h
set_option maxRecDepth 20000 in
theorem ggL_bank_X4_bank : GoodIn wsL_bank wsX4_bank := goodIn_ca (goodIn_r _ [6, 7, 8, 9, 10, 11, 12, 13, 14, 15, 5, 16, 17, 18, 19, 20, 21, 22, 23, 24, 25, 26, 27, 28, 29, 30, 31, 32, 33, 34, 35, 36, 37, 38, 39, 40, 41, 42, 43, 44, 45] (by decide +kernel) (by decide +kernel)) (goodIn_sub (fun _ h => List.mem_cons_of_mem _ (List.mem_append_right _ h)) (by decide +kernel))
set_option maxRecDepth 20000 in
theorem gL_bank_X4_bank : GoodIn wsL_bank (wsV RL 15 RX4 yX4_bank wsX4_bank) := goodIn_app (goodIn_of _ (by decide +kernel)) ggL_bank_X4_bank
theorem gt_bank : GoodIn (tw_W wsL_bank) (wsV RL 15 RX4 yX4_bank (tw_W wsX4_bank)) := fun w h => by
  rcases List.mem_append.mp h with h | h
  · exact goodIn_up gL_bank_X4_bank w (List.mem_append_left _ h)
  · rcases List.mem_append.mp h with h | h
    · exact goodIn_up gL_bank_X4_bank w (List.mem_append_right _ h)
    · exact tw_Tg (fun w h => List.mem_append_right _ h) w h
theorem ld_blind {D : va_G} {ca : Nat → ClassId} {B : Nat → Nat} {N n : Nat} {u : ww_U} {X : va_W} {A : Nat → Prop} {av : List Value} {sz : Nat} : FrameBlind (va_Pc av (fun U => U.heap.size = sz ∧ ww_Wd D ca B N n u X A U ∧ tt_X A U U.heap)) := by
  intro a U g mk h
  obtain ⟨h1, h2, ⟨h3, h4, h5, h6⟩, h7⟩ := h
  exact ⟨h1, h2, ⟨h3, va_K.moved (u := U) (U := U.calling g mk a) (Vm.Alike.refl U.vm) h4, h5, ww_St.moved (u := U) (U := U.calling g mk a) (Vm.Alike.refl U.vm) h6⟩, tt_X.same (s := U) (U := U.calling g mk a) rfl h7⟩
theorem ld_blindK {D : va_G} {ca : Nat → ClassId} {B : Nat → Nat} {N n : Nat} {u : ww_U} {ao : Nat} {cG : ClassId} {f : Nat → Int64} {av : List Value} {sz : Nat} : FrameBlind (va_Pc av (ld_P D ca B N n u ao cG f sz)) := by
  intro a U g mk h
  obtain ⟨h1, h2, ⟨h3, h4, h5, h6⟩, h8, h7⟩ := h
  exact ⟨h1, h2, ⟨h3, va_K.moved (u := U) (U := U.calling g mk a) (Vm.Alike.refl U.vm) h4, h5, ww_St.moved (u := U) (U := U.calling g mk a) (Vm.Alike.refl U.vm) h6⟩, va_K.moved (u := U) (U := U.calling g mk a) (Vm.Alike.refl U.vm) h8, tt_X.same (s := U) (U := U.calling g mk a) rfl h7⟩
set_option maxHeartbeats 4000000 in
set_option maxRecDepth 100000 in
theorem wr_L_digest (l : Launch) (hst : l.stackTraces = false) {D : va_G} {ca : Nat → ClassId} {B : Nat → Nat} {N n : Nat} {u : ww_U} {ao : Nat} {cG : ClassId} {f : Nat → Int64} {x : Int32} {i : Nat} (hi32 : i < 32) (hxi : x = nI i) (hp : ¬ u 29 2 = 0) (hNn : 36 + 8 * n ≤ N) : ld_M l yL_digest (tw_W wsL_digest) ({ frames := 8, cells := 0, slots := 0, locals := 120 } : Room) D ca B N n u ao cG f [.ref (B 29), .int x, .ref ao] 0 (vp_updL f 0 (cl_oct u i).toInt64) 0 0 := by
  intro sz
  refine ld_ofW (cc := cL_digest) (maxL := 4) (ret := some .int) (hh := [(0, 9, 12, 13)]) (by decide) rfl ?_
  intro p e s m args below meth c s₁ Bd hml htb hv
  obtain ⟨rfl, hsz, ⟨hP, hK, hD, hSt⟩, hKG, hT⟩ := hv
  subst hsz
  have hl := lv_entry ([.ref (B 29), .int x, .ref ao]) (n := 4) (Nat.le_of_ble_eq_true rfl)
  rw [lg_entry_eq]
  generalize (lg_sl ([.ref (B 29), .int x, .ref ao]) ++ List.replicate (4 - (lg_sl ([.ref (B 29), .int x, .ref ao])).length) Slot.unset).toArray = ls at hl ⊢
  have hl : lv_has ls 4 [(0, .ref (B 29)), (1, .int x), (2, .ref ao)] := hl
  obtain ⟨X, hX⟩ : ∃ X : va_W, X = ld_X ao cG f := ⟨_, rfl⟩
  have C : ww_C D ca RL cL_digest 4 (tw_W wsL_digest) (some .int) (ww_A B N (ld_X ao cG f) s.heap.size) p s m ([.ref (B 29), .int x, .ref ao] : List Value).toArray meth c := ⟨⟨Bd.exec, Bd.bytes, hml, findClass_of_methodNamed Bd.named, atoms_spec (ws := tw_W wsL_digest) Bd.pre⟩, Bd.returns, Bd.notSynchronized, hK, fun q h => Or.inr (Or.inr h), hSt⟩
  have hN : ww_N D ca B N n u (ld_X ao cG f) (ww_A B N (ld_X ao cG f) s.heap.size) s.heap s.heap [] := ⟨hP, hD, va_S.rf⟩
  have hx := C.1.1
  have hb := C.1.2.1
  have hNB : 36 ≤ N := by omega
  refine lv_aload_n hx hb dL_digest_0 rfl (lv_at hl 2 rfl) ?_
  refine lv_iconst (v := 0) hx hb dL_digest_1 (by decide) ?_
  refine lv_aload_n hx hb dL_digest_2 rfl (lv_at hl 0 rfl) ?_
  refine lv_iload_n hx hb dL_digest_3 rfl (lv_at hl 1 rfl) ?_
  refine rr_callV (As := [.int x]) C hN 29 (by omega) rfl rfl rfl (ct_X4_digest l hi32 hxi hp hNn) (goodIn_up gL_digest_X4_digest) rfl rfl rfl 1 (by decide +kernel) ⟨Nat.le_of_ble_eq_true rfl, Nat.le_of_ble_eq_true rfl⟩ rfl hl.1 rfl (Nat.le_of_ble_eq_true rfl) ⟨Nat.zero_le _, Nat.zero_le _⟩ dL_digest_4 (fun H locs hN => ?_)
  refine lv_i2l hx hb dL_digest_7 rfl ?_
  refine va_last hx hb hKG hN.1 hN.2.1 hN.2.2 N 5 ld_at rfl (by unfold vp_in; decide) dL_digest_8 (fun H locs hP1 hD1 hS1 => ?_)
  rw [ld_set] at hP1 hD1
  refine lv_goto (tgt := 15) hx hb dL_digest_9 (by decide) ?_
  refine lv_iconst (v := 0) hx hb dL_digest_15 (by decide) ?_
  refine W.iret hx hb C.2.1 (fun t ht hW => ⟨⟨rfl, by rw [ht]; exact hP1, va_K.moved hW.alike hK, hD1, by rw [ht]; exact (hSt.kept (fun a h1 h2 => hS1.2.1 a h1 h2)).moved hW.alike⟩, hS1.F ht⟩) hS1.2.2 dL_digest_16 C.2.2.1
set_option maxHeartbeats 4000000 in
set_option maxRecDepth 100000 in
theorem wt_L_digest (l : Launch) (hst : l.stackTraces = false) {D : va_G} {ca : Nat → ClassId} {B : Nat → Nat} {N n : Nat} {u : ww_U} {ao : Nat} {cG : ClassId} {f : Nat → Int64} {x : Int32} (h : u 29 2 = 0 ∨ x < 0 ∨ ¬ x < 32) (hNn : 36 + 8 * n ≤ N) : ld_M l yL_digest (tw_W wsL_digest) ({ frames := 8, cells := 1, slots := 6, locals := 120 } : Room) D ca B N n u ao cG f [.ref (B 29), .int x, .ref ao] 1 f 1 6 := by
  intro sz
  refine ld_ofW (cc := cL_digest) (maxL := 4) (ret := some .int) (hh := [(0, 9, 12, 13)]) (by decide) rfl ?_
  intro p e s m args below meth c s₁ Bd hml htb hv
  obtain ⟨rfl, hsz, ⟨hP, hK, hD, hSt⟩, hKG, hT⟩ := hv
  subst hsz
  have hl := lv_entry ([.ref (B 29), .int x, .ref ao]) (n := 4) (Nat.le_of_ble_eq_true rfl)
  rw [lg_entry_eq]
  generalize (lg_sl ([.ref (B 29), .int x, .ref ao]) ++ List.replicate (4 - (lg_sl ([.ref (B 29), .int x, .ref ao])).length) Slot.unset).toArray = ls at hl ⊢
  have hl : lv_has ls 4 [(0, .ref (B 29)), (1, .int x), (2, .ref ao)] := hl
  obtain ⟨X, hX⟩ : ∃ X : va_W, X = ld_X ao cG f := ⟨_, rfl⟩
  have C : ww_C D ca RL cL_digest 4 (tw_W wsL_digest) (some .int) (ww_A B N (ld_X ao cG f) s.heap.size) p s m ([.ref (B 29), .int x, .ref ao] : List Value).toArray meth c := ⟨⟨Bd.exec, Bd.bytes, hml, findClass_of_methodNamed Bd.named, atoms_spec (ws := tw_W wsL_digest) Bd.pre⟩, Bd.returns, Bd.notSynchronized, hK, fun q h => Or.inr (Or.inr h), hSt⟩
  have hN : ww_N D ca B N n u (ld_X ao cG f) (ww_A B N (ld_X ao cG f) s.heap.size) s.heap s.heap [] := ⟨hP, hD, va_S.rf⟩
  have hx := C.1.1
  have hb := C.1.2.1
  have hNB : 36 ≤ N := by omega
  refine lv_aload_n hx hb dL_digest_0 rfl (lv_at hl 2 rfl) ?_
  refine lv_iconst (v := 0) hx hb dL_digest_1 (by decide) ?_
  refine lv_aload_n hx hb dL_digest_2 rfl (lv_at hl 0 rfl) ?_
  refine lv_iload_n hx hb dL_digest_3 rfl (lv_at hl 1 rfl) ?_
  have hcb := (Cond.classLink RL 13 "java/lang/ArrayIndexOutOfBoundsException")
  refine vx_calli (S := Unit) (SX := Unit) (post := fun _ _ => False) (px := fun _ => True) (B := fun _ _ => True) (BX := fun E _ t => E = RJx00060 ∧ ww_Wd D ca B N n u (ld_X ao cG f) (ww_A B N (ld_X ao cG f) s.heap.size) t) (AX := ww_A B N (ld_X ao cG f) s.heap.size) (A0 := ww_A B N (ld_X ao cG f) s.heap.size) (H0 := s.heap) (vx_runV (As := [.int x]) (b := B 29) C.1 ((wt_X4_digest l hst h hNB) s.heap.size) (cwV 1 C.1.2.2.2.2 gt_digest rfl rfl rfl (by decide +kernel) ⟨Nat.le_of_ble_eq_true rfl, Nat.le_of_ble_eq_true rfl⟩) ⟨ld_blind, va_recv C.2.2.2.1 hN.1 (ci := 4) (q0 := 29) rfl (ww_at (by omega)), fun U hU hW => ⟨rfl, (ww_pre C hN hU hW).1, (ww_pre C hN hU hW).2, by rw [hU]; exact tt_X.warm hW hT⟩⟩ rfl rfl hl.1 rfl (lv_room (Nat.le_of_ble_eq_true rfl)) dL_digest_4 ⟨Nat.le_of_ble_eq_true rfl, Nat.le_of_ble_eq_true rfl⟩) hN.2.2 (fun _ _ h => h) (fun _ h => h) (fun _ _ h => h) ?_ (fun _ _ _ _ _ _ _ h => absurd h id)
  rintro E ce q9 - t H locs rfl hal - ⟨rfl, hP1, hK1, hD1, hSt1⟩ hz hq hS1 hce hcv hcl
  refine vx_catch (own := RL) (name := "java/lang/ArrayIndexOutOfBoundsException") C.1.2.2.2.1 [] _ [] htb (fun _ h => nomatch h) rfl (by decide) (C.1.2.2.2.2 _ (List.mem_append_left _ (List.mem_of_getElem? (i := 1) rfl))) (va_Nw.use rfl hT.2.2.2.2.2) hce hcv hcl ?_
  refine lv_astore_n (lv' := [(3, .ref q9), (0, .ref (B 29)), (1, .int x), (2, .ref ao)]) hx hb dL_digest_12 rfl hl (by decide) rfl (fun ls hl => ?_)
  refine lv_iconst (v := 1) hx hb dL_digest_13 (by decide) ?_
  refine W.iret hx hb C.2.1 (fun t' ht hW => ⟨⟨rfl, by rw [ht]; exact hP1, va_K.moved hW.alike hK, hD1, by rw [ht]; exact (hSt.kept (fun a h1 h2 => hS1.2.1 a h1 h2)).moved hW.alike⟩, hS1.F ht⟩) hS1.2.2 dL_digest_14 C.2.2.1
set_option maxHeartbeats 4000000 in
set_option maxRecDepth 100000 in
theorem wr_L_bank0 (l : Launch) (hst : l.stackTraces = false) {D : va_G} {ca : Nat → ClassId} {B : Nat → Nat} {N n : Nat} {u : ww_U} {ao : Nat} {cG : ClassId} {f : Nat → Int64} {x : Int32} (h : x < 1 ∨ u 29 1 < x) (y : Int32) (i : Int64) (hNn : 36 + 8 * n ≤ N) : ld_M l yL_bank (tw_W wsL_bank) ({ frames := 8, cells := 0, slots := 0, locals := 120 } : Room) D ca B N n u ao cG f [.ref (B 29), .int x, .int y, .long i, .ref ao] 0 (vp_updL f 0 ((0 : Int32)).toInt64) 0 0 := by
  intro sz
  refine ld_ofW (cc := cL_bank) (maxL := 7) (ret := some .int) (hh := [(0, 12, 15, 13)]) (by decide) rfl ?_
  intro p e s m args below meth c s₁ Bd hml htb hv
  obtain ⟨rfl, hsz, ⟨hP, hK, hD, hSt⟩, hKG, hT⟩ := hv
  subst hsz
  have hl := lv_entry ([.ref (B 29), .int x, .int y, .long i, .ref ao]) (n := 7) (Nat.le_of_ble_eq_true rfl)
  rw [lg_entry_eq]
  generalize (lg_sl ([.ref (B 29), .int x, .int y, .long i, .ref ao]) ++ List.replicate (7 - (lg_sl ([.ref (B 29), .int x, .int y, .long i, .ref ao])).length) Slot.unset).toArray = ls at hl ⊢
  have hl : lv_has ls 7 [(0, .ref (B 29)), (1, .int x), (2, .int y), (3, .long i), (5, .ref ao)] := hl
  obtain ⟨X, hX⟩ : ∃ X : va_W, X = ld_X ao cG f := ⟨_, rfl⟩
  have C : ww_C D ca RL cL_bank 7 (tw_W wsL_bank) (some .int) (ww_A B N (ld_X ao cG f) s.heap.size) p s m ([.ref (B 29), .int x, .int y, .long i, .ref ao] : List Value).toArray meth c := ⟨⟨Bd.exec, Bd.bytes, hml, findClass_of_methodNamed Bd.named, atoms_spec (ws := tw_W wsL_bank) Bd.pre⟩, Bd.returns, Bd.notSynchronized, hK, fun q h => Or.inr (Or.inr h), hSt⟩
  have hN : ww_N D ca B N n u (ld_X ao cG f) (ww_A B N (ld_X ao cG f) s.heap.size) s.heap s.heap [] := ⟨hP, hD, va_S.rf⟩
  have hx := C.1.1
  have hb := C.1.2.1
  have hNB : 36 ≤ N := by omega
  refine lv_aload hx hb dL_bank_0 (lv_at hl 4 rfl) ?_
  refine lv_iconst (v := 0) hx hb dL_bank_2 (by decide) ?_
  refine lv_aload_n hx hb dL_bank_3 rfl (lv_at hl 0 rfl) ?_
  refine lv_iload_n hx hb dL_bank_4 rfl (lv_at hl 1 rfl) ?_
  refine lv_iload_n hx hb dL_bank_5 rfl (lv_at hl 2 rfl) ?_
  refine lv_lload_n hx hb dL_bank_6 rfl (lv_at hl 3 rfl) ?_
  refine rr_callV (As := [.int x, .int y, .long i]) C hN 29 (by omega) rfl rfl rfl (ct_X4_bank0 l h y i hNn) (goodIn_up gL_bank_X4_bank) rfl rfl rfl 3 (by decide +kernel) ⟨Nat.le_of_ble_eq_true rfl, Nat.le_of_ble_eq_true rfl⟩ rfl hl.1 rfl (Nat.le_of_ble_eq_true rfl) ⟨Nat.zero_le _, Nat.zero_le _⟩ dL_bank_7 (fun H locs hN => ?_)
  refine lv_i2l hx hb dL_bank_10 rfl ?_
  refine va_last hx hb hKG hN.1 hN.2.1 hN.2.2 N 5 ld_at rfl (by unfold vp_in; decide) dL_bank_11 (fun H locs hP1 hD1 hS1 => ?_)
  rw [ld_set] at hP1 hD1
  refine lv_goto (tgt := 19) hx hb dL_bank_12 (by decide) ?_
  refine lv_iconst (v := 0) hx hb dL_bank_19 (by decide) ?_
  refine W.iret hx hb C.2.1 (fun t ht hW => ⟨⟨rfl, by rw [ht]; exact hP1, va_K.moved hW.alike hK, hD1, by rw [ht]; exact (hSt.kept (fun a h1 h2 => hS1.2.1 a h1 h2)).moved hW.alike⟩, hS1.F ht⟩) hS1.2.2 dL_bank_20 C.2.2.1
set_option maxHeartbeats 4000000 in
set_option maxRecDepth 100000 in
theorem wr_L_bank2 (l : Launch) (hst : l.stackTraces = false) {D : va_G} {ca : Nat → ClassId} {B : Nat → Nat} {N n : Nat} {u : ww_U} {ao : Nat} {cG : ClassId} {f : Nat → Int64} {x : Int32} (j : Nat) (hj : j < 8) (hj2 : j < n) (hxj : x = nI (j + 1)) (hx1 : ¬ x < 1) (hx2 : x ≤ u 29 1) {y : Int32} {i : Int64} {b0 i0 : Nat} (hb2 : b0 < 2) (hyb : y = nI b0) (hi2 : i0 < 256) (hii : i = lN i0) (hby : (u (kO j b0) i0).toInt8.toInt32 = u (kO j b0) i0) (hNn : 36 + 8 * n ≤ N) : ld_M l yL_bank (tw_W wsL_bank) ({ frames := 8, cells := 0, slots := 0, locals := 120 } : Room) D ca B N n u ao cG f [.ref (B 29), .int x, .int y, .long i, .ref ao] 0 (vp_updL f 0 (u (kO j b0) i0).toInt64) 0 0 := by
  intro sz
  refine ld_ofW (cc := cL_bank) (maxL := 7) (ret := some .int) (hh := [(0, 12, 15, 13)]) (by decide) rfl ?_
  intro p e s m args below meth c s₁ Bd hml htb hv
  obtain ⟨rfl, hsz, ⟨hP, hK, hD, hSt⟩, hKG, hT⟩ := hv
  subst hsz
  have hl := lv_entry ([.ref (B 29), .int x, .int y, .long i, .ref ao]) (n := 7) (Nat.le_of_ble_eq_true rfl)
  rw [lg_entry_eq]
  generalize (lg_sl ([.ref (B 29), .int x, .int y, .long i, .ref ao]) ++ List.replicate (7 - (lg_sl ([.ref (B 29), .int x, .int y, .long i, .ref ao])).length) Slot.unset).toArray = ls at hl ⊢
  have hl : lv_has ls 7 [(0, .ref (B 29)), (1, .int x), (2, .int y), (3, .long i), (5, .ref ao)] := hl
  obtain ⟨X, hX⟩ : ∃ X : va_W, X = ld_X ao cG f := ⟨_, rfl⟩
  have C : ww_C D ca RL cL_bank 7 (tw_W wsL_bank) (some .int) (ww_A B N (ld_X ao cG f) s.heap.size) p s m ([.ref (B 29), .int x, .int y, .long i, .ref ao] : List Value).toArray meth c := ⟨⟨Bd.exec, Bd.bytes, hml, findClass_of_methodNamed Bd.named, atoms_spec (ws := tw_W wsL_bank) Bd.pre⟩, Bd.returns, Bd.notSynchronized, hK, fun q h => Or.inr (Or.inr h), hSt⟩
  have hN : ww_N D ca B N n u (ld_X ao cG f) (ww_A B N (ld_X ao cG f) s.heap.size) s.heap s.heap [] := ⟨hP, hD, va_S.rf⟩
  have hx := C.1.1
  have hb := C.1.2.1
  have hNB : 36 ≤ N := by omega
  refine lv_aload hx hb dL_bank_0 (lv_at hl 4 rfl) ?_
  refine lv_iconst (v := 0) hx hb dL_bank_2 (by decide) ?_
  refine lv_aload_n hx hb dL_bank_3 rfl (lv_at hl 0 rfl) ?_
  refine lv_iload_n hx hb dL_bank_4 rfl (lv_at hl 1 rfl) ?_
  refine lv_iload_n hx hb dL_bank_5 rfl (lv_at hl 2 rfl) ?_
  refine lv_lload_n hx hb dL_bank_6 rfl (lv_at hl 3 rfl) ?_
  refine rr_callV (As := [.int x, .int y, .long i]) C hN 29 (by omega) rfl rfl rfl (ct_X4_bank2 l j hj hj2 hxj hx1 hx2 hb2 hyb hi2 hii hby hNn) (goodIn_up gL_bank_X4_bank) rfl rfl rfl 3 (by decide +kernel) ⟨Nat.le_of_ble_eq_true rfl, Nat.le_of_ble_eq_true rfl⟩ rfl hl.1 rfl (Nat.le_of_ble_eq_true rfl) ⟨Nat.zero_le _, Nat.zero_le _⟩ dL_bank_7 (fun H locs hN => ?_)
  refine lv_i2l hx hb dL_bank_10 rfl ?_
  refine va_last hx hb hKG hN.1 hN.2.1 hN.2.2 N 5 ld_at rfl (by unfold vp_in; decide) dL_bank_11 (fun H locs hP1 hD1 hS1 => ?_)
  rw [ld_set] at hP1 hD1
  refine lv_goto (tgt := 19) hx hb dL_bank_12 (by decide) ?_
  refine lv_iconst (v := 0) hx hb dL_bank_19 (by decide) ?_
  refine W.iret hx hb C.2.1 (fun t ht hW => ⟨⟨rfl, by rw [ht]; exact hP1, va_K.moved hW.alike hK, hD1, by rw [ht]; exact (hSt.kept (fun a h1 h2 => hS1.2.1 a h1 h2)).moved hW.alike⟩, hS1.F ht⟩) hS1.2.2 dL_bank_20 C.2.2.1
set_option maxHeartbeats 4000000 in
set_option maxRecDepth 100000 in
theorem wt_L_bank (l : Launch) (hst : l.stackTraces = false) {D : va_G} {ca : Nat → ClassId} {B : Nat → Nat} {N n : Nat} {u : ww_U} {ao : Nat} {cG : ClassId} {f : Nat → Int64} {x : Int32} (j : Nat) (hj : j < 8) (hj2 : j < n) (hxj : x = nI (j + 1)) (hx1 : ¬ x < 1) (hx2 : x ≤ u 29 1) {y : Int32} {i : Int64} (h : y < 0 ∨ 2 ≤ y ∨ i < 0 ∨ ¬ i < 256) (hNn : 36 + 8 * n ≤ N) : ld_M l yL_bank (tw_W wsL_bank) ({ frames := 8, cells := 1, slots := 6, locals := 120 } : Room) D ca B N n u ao cG f [.ref (B 29), .int x, .int y, .long i, .ref ao] 1 f 1 6 := by
  intro sz
  refine ld_ofW (cc := cL_bank) (maxL := 7) (ret := some .int) (hh := [(0, 12, 15, 13)]) (by decide) rfl ?_
  intro p e s m args below meth c s₁ Bd hml htb hv
  obtain ⟨rfl, hsz, ⟨hP, hK, hD, hSt⟩, hKG, hT⟩ := hv
  subst hsz
  have hl := lv_entry ([.ref (B 29), .int x, .int y, .long i, .ref ao]) (n := 7) (Nat.le_of_ble_eq_true rfl)
  rw [lg_entry_eq]
  generalize (lg_sl ([.ref (B 29), .int x, .int y, .long i, .ref ao]) ++ List.replicate (7 - (lg_sl ([.ref (B 29), .int x, .int y, .long i, .ref ao])).length) Slot.unset).toArray = ls at hl ⊢
  have hl : lv_has ls 7 [(0, .ref (B 29)), (1, .int x), (2, .int y), (3, .long i), (5, .ref ao)] := hl
  obtain ⟨X, hX⟩ : ∃ X : va_W, X = ld_X ao cG f := ⟨_, rfl⟩
  have C : ww_C D ca RL cL_bank 7 (tw_W wsL_bank) (some .int) (ww_A B N (ld_X ao cG f) s.heap.size) p s m ([.ref (B 29), .int x, .int y, .long i, .ref ao] : List Value).toArray meth c := ⟨⟨Bd.exec, Bd.bytes, hml, findClass_of_methodNamed Bd.named, atoms_spec (ws := tw_W wsL_bank) Bd.pre⟩, Bd.returns, Bd.notSynchronized, hK, fun q h => Or.inr (Or.inr h), hSt⟩
  have hN : ww_N D ca B N n u (ld_X ao cG f) (ww_A B N (ld_X ao cG f) s.heap.size) s.heap s.heap [] := ⟨hP, hD, va_S.rf⟩
  have hx := C.1.1
  have hb := C.1.2.1
  have hNB : 36 ≤ N := by omega
  refine lv_aload hx hb dL_bank_0 (lv_at hl 4 rfl) ?_
  refine lv_iconst (v := 0) hx hb dL_bank_2 (by decide) ?_
  refine lv_aload_n hx hb dL_bank_3 rfl (lv_at hl 0 rfl) ?_
  refine lv_iload_n hx hb dL_bank_4 rfl (lv_at hl 1 rfl) ?_
  refine lv_iload_n hx hb dL_bank_5 rfl (lv_at hl 2 rfl) ?_
  refine lv_lload_n hx hb dL_bank_6 rfl (lv_at hl 3 rfl) ?_
  have hcb := (Cond.classLink RL 13 "java/lang/ArrayIndexOutOfBoundsException")
  refine vx_calli (S := Unit) (SX := Unit) (post := fun _ _ => False) (px := fun _ => True) (B := fun _ _ => True) (BX := fun E _ t => E = RJx00060 ∧ ww_Wd D ca B N n u (ld_X ao cG f) (ww_A B N (ld_X ao cG f) s.heap.size) t) (AX := ww_A B N (ld_X ao cG f) s.heap.size) (A0 := ww_A B N (ld_X ao cG f) s.heap.size) (H0 := s.heap) (vx_runV (As := [.int x, .int y, .long i]) (b := B 29) C.1 ((wt_X4_bank l hst j hj hj2 hxj hx1 hx2 h hNn) s.heap.size) (cwV 3 C.1.2.2.2.2 gt_bank rfl rfl rfl (by decide +kernel) ⟨Nat.le_of_ble_eq_true rfl, Nat.le_of_ble_eq_true rfl⟩) ⟨ld_blind, va_recv C.2.2.2.1 hN.1 (ci := 4) (q0 := 29) rfl (ww_at (by omega)), fun U hU hW => ⟨rfl, (ww_pre C hN hU hW).1, (ww_pre C hN hU hW).2, by rw [hU]; exact tt_X.warm hW hT⟩⟩ rfl rfl hl.1 rfl (lv_room (Nat.le_of_ble_eq_true rfl)) dL_bank_7 ⟨Nat.le_of_ble_eq_true rfl, Nat.le_of_ble_eq_true rfl⟩) hN.2.2 (fun _ _ h => h) (fun _ h => h) (fun _ _ h => h) ?_ (fun _ _ _ _ _ _ _ h => absurd h id)
  rintro E ce q9 - t H locs rfl hal - ⟨rfl, hP1, hK1, hD1, hSt1⟩ hz hq hS1 hce hcv hcl
  refine vx_catch (own := RL) (name := "java/lang/ArrayIndexOutOfBoundsException") C.1.2.2.2.1 [] _ [] htb (fun _ h => nomatch h) rfl (by decide) (C.1.2.2.2.2 _ (List.mem_append_left _ (List.mem_of_getElem? (i := 1) rfl))) (va_Nw.use rfl hT.2.2.2.2.2) hce hcv hcl ?_
  refine lv_astore (lv' := [(6, .ref q9), (0, .ref (B 29)), (1, .int x), (2, .int y), (3, .long i), (5, .ref ao)]) hx hb dL_bank_15 hl (by decide) rfl (fun ls hl => ?_)
  refine lv_iconst (v := 1) hx hb dL_bank_17 (by decide) ?_
  refine W.iret hx hb C.2.1 (fun t' ht hW => ⟨⟨rfl, by rw [ht]; exact hP1, va_K.moved hW.alike hK, hD1, by rw [ht]; exact (hSt.kept (fun a h1 h2 => hS1.2.1 a h1 h2)).moved hW.alike⟩, hS1.F ht⟩) hS1.2.2 dL_bank_18 C.2.2.1
