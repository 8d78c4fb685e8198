def cu_pk (u : ww_U) (j : Nat) (ed : Int32) (g : Nat) : ww_U := ww_up (cl_digest g (cu_beg g j (u 29 2 + 1) ed (ww_up u 29 2 (u 29 2 + 1)))) 29 4 0
def cu_pack (u : ww_U) (j : Nat) (ed z : Int32) (g : Nat) : ww_U × Int32 := if cu_refuse u j ed z = 0 then (cu_pk u j ed g, u 29 2 + 1) else (u, cu_refuse u j ed z)
theorem cu_beg_ne {m i a : Nat} {num ed : Int32} {u : ww_U} (h6 : a ≠ kP i) (h7 : a ≠ kQ i) : cu_beg m i num ed u a = u a := by
  unfold cu_beg
  rw [ww_up_ne h6, ww_up_ne h6, ww_up_ne h6, ww_up_ne h6, ww_up_ne h6, ww_up_ne h6, ww_up_ne h6, cu_begin_ne h7]
theorem cl_lay_ne {d k m a : Nat} {u : ww_U} (h : a ≠ 33) : cl_lay d k m u a = u a := by
  induction d generalizing k u with
  | zero => rfl
  | succ d ih => show cl_lay d (k + 1) m _ a = _; rw [ih, ww_up_ne h]
theorem cl_bits_ne {d k T a : Nat} {b : Int64} {u : ww_U} (h : a ≠ 33) : cl_bits d k T b u a = u a := by
  induction d generalizing k u b with
  | zero => rfl
  | succ d ih => show cl_bits d (k + 1) T _ _ a = _; rw [ih, ww_up_ne h]
theorem cl_f1_ne {d k f a : Nat} {u : ww_U} (h : a ≠ 34) : cl_f1 d k f u a = u a := by
  induction d generalizing k u with
  | zero => rfl
  | succ d ih => show cl_f1 d (k + 1) f _ a = _; rw [ih, ww_up_ne h]
theorem cl_f2_ne {d k a : Nat} {u : ww_U} (h : a ≠ 34) : cl_f2 d k u a = u a := by
  induction d generalizing k u with
  | zero => rfl
  | succ d ih => show cl_f2 d (k + 1) _ a = _; rw [ih, ww_up_ne h]
theorem cl_add_ne {j a : Nat} {x : Int32} {u : ww_U} (h : a ≠ 35) : cl_add u j x a = u a := ww_up_ne h
theorem cl_mix_ne {q k a : Nat} {u : ww_U} {x1 x2 x3 x4 x5 x6 x7 x8 : Int32} (h : a ≠ 35) : cl_mix q k u x1 x2 x3 x4 x5 x6 x7 x8 a = u a := by
  induction q generalizing k x1 x2 x3 x4 x5 x6 x7 x8 with
  | zero =>
    unfold cl_mix
    rw [cl_add_ne h, cl_add_ne h, cl_add_ne h, cl_add_ne h, cl_add_ne h, cl_add_ne h, cl_add_ne h, cl_add_ne h]
  | succ q ih => unfold cl_mix; exact ih
theorem cl_sq_ne {d k a : Nat} {u : ww_U} (h : a ≠ 35) : cl_sq d k u a = u a := by
  induction d generalizing k u with
  | zero => rfl
  | succ d ih => show cl_sq d (k + 1) _ a = _; rw [ih, ww_up_ne h]
theorem cl_dg_ne {d k a : Nat} {u : ww_U} (h4 : a ≠ 34) (h5 : a ≠ 35) : cl_dg d k u a = u a := by
  induction d generalizing k u with
  | zero => rfl
  | succ d ih => show cl_dg d (k + 1) _ a = _; rw [ih]; unfold cl_mx cl_fill; rw [cl_mix_ne h5, cl_f2_ne h4, cl_f1_ne h4]
theorem cl_digest_ne {m a : Nat} {u : ww_U} (h3 : a ≠ 33) (h4 : a ≠ 34) (h5 : a ≠ 35) : cl_digest m u a = u a := by
  unfold cl_digest cl_layOut
  rw [cl_dg_ne h4 h5, cl_sq_ne h5, cl_bits_ne h3, ww_up_ne h3, cl_lay_ne h3]
set_option maxHeartbeats 4000000 in
set_option maxRecDepth 100000 in
theorem ct_X4_package00 (l : Launch) {D : va_G} {ca : Nat → ClassId} {B : Nat → Nat} {N n : Nat} {X : va_W} {u : ww_U} {x : Int32} (h : x < 1 ∨ u 29 1 < x) (ed z : Int32) (hNn : 36 + 8 * n ≤ N)  : ww_M l yX4_package0 wsX4_package0 ({ frames := 4, cells := 0, slots := 0, locals := 99 } : Room) D ca B N n X u [.ref (B 29), .int x, .int ed, .int z] (some (.int (-1))) u := by
  refine ww_met (cc := cX4_package0) (maxL := 6) (ret := (some .int)) (by decide) rfl (Nat.le_of_ble_eq_true rfl) ?_
  intro p e s m args below meth c C hN ls hl
  have hl : lv_has ls 6 [(0, .ref (B 29)), (1, .int x), (2, .int ed), (3, .int z)] := hl
  have hx := C.1.1
  have hb := C.1.2.1
  have hNB : 36 ≤ N := by omega
  have hNN : 29 ≤ N := by omega
  refine lv_aload_n hx hb dX4_package0_0 rfl (lv_at hl 0 rfl) ?_
  refine lv_iload_n hx hb dX4_package0_1 rfl (lv_at hl 1 rfl) ?_
  refine rr_callV (As := [.int x]) C hN 29 (Nat.lt_of_lt_of_le (by decide) hNB) rfl rfl rfl (ct_X4_find0 l h hNn) gX4_package0_X4_find rfl rfl rfl 1 (by decide +kernel) ⟨Nat.le_of_ble_eq_true rfl, Nat.le_of_ble_eq_true rfl⟩ rfl hl.1 rfl (Nat.le_of_ble_eq_true rfl) ⟨Nat.zero_le _, Nat.zero_le _⟩ dX4_package0_2 (fun H locs hN => ?_)
  refine lv_astoreN (lv' := [(4, .null), (0, .ref (B 29)), (1, .int x), (2, .int ed), (3, .int z)]) hx hb dX4_package0_5 hl (by decide) rfl (fun ls hl => ?_)
  refine lv_aloadN hx hb dX4_package0_7 (lv_at hl 0 rfl) ?_
  refine lv_ifnonnullN hx hb dX4_package0_9 ?_
  refine lv_iconst (v := (-1)) hx hb dX4_package0_12 (by decide) ?_
  exact rr_iret C hN dX4_package0_13 rfl rfl
set_option maxRecDepth 20000 in
theorem kw_X4_package0_X1 : ww_K wsX4_package0 RX1 TX1 10 tyX1 := ⟨by decide +kernel, tyX1_ok, nmX1⟩
set_option maxRecDepth 20000 in
theorem kw_X4_package0_X4 : ww_K wsX4_package0 RX4 TX4 8 tyX4 := ⟨by decide +kernel, tyX4_ok, nmX4⟩
set_option maxHeartbeats 4000000 in
set_option maxRecDepth 100000 in
theorem ct_X4_package0 (l : Launch) {D : va_G} {ca : Nat → ClassId} {B : Nat → Nat} {N n : Nat} {X : va_W} {u : ww_U} {x : Int32} (j : Nat) (hj : j < 8) (hj2 : j < n) (hxj : x = nI (j + 1)) (hx1 : ¬ x < 1) (hx2 : x ≤ u 29 1) (ed z : Int32) {g : Nat} (hg : g ≤ 256) (hge : u 29 4 = nI g) (hNn : 36 + 8 * n ≤ N)  : ww_M l yX4_package0 wsX4_package0 ({ frames := 4, cells := 0, slots := 0, locals := 99 } : Room) D ca B N n X u [.ref (B 29), .int x, .int ed, .int z] (some (.int (cu_pack u j ed z g).2)) (cu_pack u j ed z g).1 := by
  refine ww_met (cc := cX4_package0) (maxL := 6) (ret := (some .int)) (by decide) rfl (Nat.le_of_ble_eq_true rfl) ?_
  intro p e s m args below meth c C hN ls hl
  have hl : lv_has ls 6 [(0, .ref (B 29)), (1, .int x), (2, .int ed), (3, .int z)] := hl
  have hx := C.1.1
  have hb := C.1.2.1
  have hNB : 36 ≤ N := by omega
  have hNN : 29 ≤ N := by omega
  refine lv_aload_n hx hb dX4_package0_0 rfl (lv_at hl 0 rfl) ?_
  refine lv_iload_n hx hb dX4_package0_1 rfl (lv_at hl 1 rfl) ?_
  refine rr_callV (As := [.int x]) C hN 29 (Nat.lt_of_lt_of_le (by decide) hNB) rfl rfl rfl (ct_X4_find l j hj hj2 hxj hNn hx1 hx2) gX4_package0_X4_find rfl rfl rfl 1 (by decide +kernel) ⟨Nat.le_of_ble_eq_true rfl, Nat.le_of_ble_eq_true rfl⟩ rfl hl.1 rfl (Nat.le_of_ble_eq_true rfl) ⟨Nat.zero_le _, Nat.zero_le _⟩ dX4_package0_2 (fun H locs hN => ?_)
  refine lv_astore (lv' := [(4, .ref (B (kC j))), (0, .ref (B 29)), (1, .int x), (2, .int ed), (3, .int z)]) hx hb dX4_package0_5 hl (by decide) rfl (fun ls hl => ?_)
  refine lv_aload hx hb dX4_package0_7 (lv_at hl 0 rfl) ?_
  refine lv_ifnonnull (tgt := 14) hx hb dX4_package0_9 (by decide) ?_
  refine lv_aload_n hx hb dX4_package0_14 rfl (lv_at hl 1 rfl) ?_
  refine lv_aload hx hb dX4_package0_15 (lv_at hl 0 rfl) ?_
  refine lv_iload_n hx hb dX4_package0_17 rfl (lv_at hl 3 rfl) ?_
  refine lv_iload_n hx hb dX4_package0_18 rfl (lv_at hl 4 rfl) ?_
  refine rr_callV (As := [.ref (B (kC j)), .int ed, .int z]) C hN 29 (Nat.lt_of_lt_of_le (by decide) hNB) rfl rfl rfl (ct_X4_refusalOf l hj2 ed z hNn) gX4_package0_X4_refusalOf rfl rfl rfl 3 (by decide +kernel) ⟨Nat.le_of_ble_eq_true rfl, Nat.le_of_ble_eq_true rfl⟩ rfl hl.1 rfl (Nat.le_of_ble_eq_true rfl) ⟨Nat.zero_le _, Nat.zero_le _⟩ dX4_package0_19 (fun H locs hN => ?_)
  refine lv_topi (fun v1 ev1 => ?_)
  refine lv_istore (lv' := [(5, .int v1), (4, .ref (B (kC j))), (0, .ref (B 29)), (1, .int x), (2, .int ed), (3, .int z)]) hx hb dX4_package0_22 hl (by decide) rfl (fun ls hl => ?_)
  refine lv_iload hx hb dX4_package0_24 (lv_at hl 0 rfl) ?_
  refine lv_if_eq (tgt := 32) hx hb dX4_package0_26 (by decide) (fun c_26 => ?_) (fun c_26 => ?_)
  · refine lv_aload_n hx hb dX4_package0_32 rfl (lv_at hl 2 rfl) ?_
    refine lv_dup hx hb dX4_package0_33 rfl ?_
    refine rr_get C hN 29 (Nat.lt_of_lt_of_le (by decide) hNB) rfl rfl kw_X4_package0_X4 2 (by decide) (List.mem_of_getElem? (i := 1) rfl) (v := .int (u 29 2)) rfl dX4_package0_34 ?_
    refine lv_iconst (v := 1) hx hb dX4_package0_37 (by decide) ?_
    refine lv_iadd hx hb dX4_package0_38 ?_
    refine lv_topi (fun v2 ev2 => ?_)
    refine rr_put C hN 29 (Nat.lt_of_lt_of_le (by decide) hNB) rfl rfl kw_X4_package0_X4 2 (by decide) (List.mem_of_getElem? (i := 1) rfl) rfl (x := v2) rfl rfl (Nat.le_of_ble_eq_true rfl) ((Eq.refl _).trans rfl) dX4_package0_39 (fun u3 eu3 H locs hN => ?_)
    refine lv_aload hx hb dX4_package0_42 (lv_at hl 1 rfl) ?_
    refine rr_get C hN (kC j) (kC_lt hNn hj2) hC_ce rfl kw_X4_package0_X1 2 (by decide) (List.mem_of_getElem? (i := 2) rfl) (v := .ref (B (kP j))) rfl dX4_package0_44 ?_
    refine lv_aload_n hx hb dX4_package0_47 rfl (lv_at hl 2 rfl) ?_
    refine rr_get C hN 29 (Nat.lt_of_lt_of_le (by decide) hNB) rfl rfl kw_X4_package0_X4 2 (by decide) (List.mem_of_getElem? (i := 1) rfl) (v := .int (u3 29 2)) rfl dX4_package0_48 ?_
    refine lv_iload_n hx hb dX4_package0_51 rfl (lv_at hl 4 rfl) ?_
    refine lv_aload_n hx hb dX4_package0_52 rfl (lv_at hl 2 rfl) ?_
    refine rr_get C hN 29 (Nat.lt_of_lt_of_le (by decide) hNB) rfl rfl kw_X4_package0_X4 3 (by decide) (List.mem_of_getElem? (i := 3) rfl) (v := .ref (B 31)) rfl dX4_package0_53 ?_
    refine lv_aload_n hx hb dX4_package0_56 rfl (lv_at hl 2 rfl) ?_
    refine rr_get C hN 29 (Nat.lt_of_lt_of_le (by decide) hNB) rfl rfl kw_X4_package0_X4 4 (by decide) (List.mem_of_getElem? (i := 4) rfl) (v := .int (u3 29 4)) rfl dX4_package0_57 ?_
    refine rr_callV0 (As := [.int (u3 29 2), .int ed, .ref (B 31), .int (u3 29 4)]) C hN (kP j) (kP_lt hNn hj2) hP_ce rfl rfl (ct_X3_begin l hj2 (u3 29 2) ed hg (by rw [eu3, ww_up_nj (by decide)]; exact hge) hNn) gX4_package0_X3_begin rfl rfl rfl 4 (by decide +kernel) ⟨Nat.le_of_ble_eq_true rfl, Nat.le_of_ble_eq_true rfl⟩ rfl hl.1 rfl (Nat.le_of_ble_eq_true rfl) ⟨Nat.zero_le _, Nat.zero_le _⟩ dX4_package0_60 (fun H locs hN => ?_)
    obtain ⟨u4, eu4⟩ : ∃ y : ww_U, y = cu_beg g j (u3 29 2) ed u3 := ⟨_, rfl⟩
    rw [← eu4] at hN
    refine lv_aload_n hx hb dX4_package0_63 rfl (lv_at hl 2 rfl) ?_
    refine rr_get C hN 29 (Nat.lt_of_lt_of_le (by decide) hNB) rfl rfl kw_X4_package0_X4 7 (by decide) (List.mem_of_getElem? (i := 5) rfl) (v := .ref (B 32)) rfl dX4_package0_64 ?_
    refine lv_aload_n hx hb dX4_package0_67 rfl (lv_at hl 2 rfl) ?_
    refine rr_get C hN 29 (Nat.lt_of_lt_of_le (by decide) hNB) rfl rfl kw_X4_package0_X4 3 (by decide) (List.mem_of_getElem? (i := 3) rfl) (v := .ref (B 31)) rfl dX4_package0_68 ?_
    refine lv_aload_n hx hb dX4_package0_71 rfl (lv_at hl 2 rfl) ?_
    refine rr_get C hN 29 (Nat.lt_of_lt_of_le (by decide) hNB) rfl rfl kw_X4_package0_X4 4 (by decide) (List.mem_of_getElem? (i := 4) rfl) (v := .int (u4 29 4)) rfl dX4_package0_72 ?_
    refine rr_callV0 (As := [.ref (B 31), .int (u4 29 4)]) C hN 32 (Nat.lt_of_lt_of_le (by decide) hNB) rfl rfl rfl (ct_X2_digestOf l hg (by rw [eu4, cu_beg_ne (by simp only [kP]; omega) (by simp only [kQ]; omega), eu3, ww_up_nj (by decide)]; exact hge) hNB) gX4_package0_X2_digestOf rfl rfl rfl 2 (by decide +kernel) ⟨Nat.le_of_ble_eq_true rfl, Nat.le_of_ble_eq_true rfl⟩ rfl hl.1 rfl (Nat.le_of_ble_eq_true rfl) ⟨Nat.zero_le _, Nat.zero_le _⟩ dX4_package0_75 (fun H locs hN => ?_)
    obtain ⟨u5, eu5⟩ : ∃ y : ww_U, y = cl_digest g u4 := ⟨_, rfl⟩
    rw [← eu5] at hN
    refine lv_aload_n hx hb dX4_package0_78 rfl (lv_at hl 2 rfl) ?_
    refine lv_iconst (v := 0) hx hb dX4_package0_79 (by decide) ?_
    refine rr_put C hN 29 (Nat.lt_of_lt_of_le (by decide) hNB) rfl rfl kw_X4_package0_X4 4 (by decide) (List.mem_of_getElem? (i := 4) rfl) rfl (x := 0) rfl rfl (Nat.le_of_ble_eq_true rfl) ((Eq.refl _).trans rfl) dX4_package0_80 (fun u6 eu6 H locs hN => ?_)
    refine lv_aload_n hx hb dX4_package0_83 rfl (lv_at hl 2 rfl) ?_
    refine rr_get C hN 29 (Nat.lt_of_lt_of_le (by decide) hNB) rfl rfl kw_X4_package0_X4 2 (by decide) (List.mem_of_getElem? (i := 1) rfl) (v := .int (u6 29 2)) rfl dX4_package0_84 ?_
    have hE : u6 = cu_pk u j ed g := by rw [eu6, eu5, eu4, eu3, ww_up_self, ev2]; rfl
    have hR : u6 29 2 = u 29 2 + 1 := by rw [eu6, ww_up_nj (by decide), eu5, cl_digest_ne (by decide) (by decide) (by decide), eu4, cu_beg_ne (by simp only [kP]; omega) (by simp only [kQ]; omega), eu3, ww_up_self, ev2]
    exact rr_iret C hN dX4_package0_87 (by unfold cu_pack; rw [if_pos (by rw [← ev1]; exact c_26), hR]) (by unfold cu_pack; rw [if_pos (by rw [← ev1]; exact c_26), hE])
  · refine lv_iload hx hb dX4_package0_29 (lv_at hl 0 rfl) ?_
    exact rr_iret C hN dX4_package0_31 (by unfold cu_pack; rw [if_neg (by rw [← ev1]; exact c_26), ← ev1]) (by unfold cu_pack; rw [if_neg (by rw [← ev1]; exact c_26)])
