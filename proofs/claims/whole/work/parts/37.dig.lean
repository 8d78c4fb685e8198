set_option maxRecDepth 20000 in
theorem kw_X4_digest_X4 : ww_K wsX4_digest RX4 TX4 8 tyX4 := ⟨by decide +kernel, tyX4_ok, nmX4⟩
set_option maxHeartbeats 4000000 in
set_option maxRecDepth 100000 in
theorem ct_X4_digest (l : Launch) {D : va_G} {ca : Nat → ClassId} {B : Nat → Nat} {N n : Nat} {X : va_W} {u : ww_U} {x : Int32} {i : Nat} (hi32 : i < 32) (hxi : x = nI i) (hp : ¬ u 29 2 = 0) (hNn : 36 + 8 * n ≤ N)  : ww_M l yX4_digest wsX4_digest ({ frames := 1, cells := 0, slots := 0, locals := 21 } : Room) D ca B N n X u [.ref (B 29), .int x] (some (.int (cl_oct u i))) u := by
  refine ww_met (cc := cX4_digest) (maxL := 2) (ret := (some .byte)) (by decide) rfl (Nat.le_of_ble_eq_true rfl) ?_
  intro p e s m args below meth c C hN ls hl
  have hl : lv_has ls 2 [(0, .ref (B 29)), (1, .int x)] := hl
  have hx := C.1.1
  have hb := C.1.2.1
  have hNB : 36 ≤ N := by omega
  have hNN : 29 ≤ N := by omega
  refine lv_aload_n hx hb dX4_digest_0 rfl (lv_at hl 0 rfl) ?_
  refine rr_get C hN 29 (Nat.lt_of_lt_of_le (by decide) hNB) rfl rfl kw_X4_digest_X4 2 (by decide) (List.mem_of_getElem? (i := 1) rfl) (v := .int (u 29 2)) rfl dX4_digest_1 ?_
  refine lv_if_eq (tgt := 17) hx hb dX4_digest_4 (by decide) (fun c_4 => absurd c_4 hp) (fun c_4 => ?_)
  refine lv_iload_n hx hb dX4_digest_7 rfl (lv_at hl 1 rfl) ?_
  refine lv_if_lt (tgt := 17) hx hb dX4_digest_8 (by decide) (fun c_8 => absurd c_8 (by rw [hxi]; exact nI_pos (by omega))) (fun c_8 => ?_)
  refine lv_iload_n hx hb dX4_digest_11 rfl (lv_at hl 1 rfl) ?_
  refine lv_bipush (v := 32) hx hb dX4_digest_12 (by decide) ?_
  refine lv_icmp_lt (tgt := 27) hx hb dX4_digest_14 (by decide) (fun c_14 => ?_) (fun c_14 => absurd c_14 (fun h => h (by rw [hxi]; exact (show nI i < nI 32 from nI_lt hi32 (by decide)))))
  refine lv_aload_n hx hb dX4_digest_27 rfl (lv_at hl 0 rfl) ?_
  refine rr_get C hN 29 (Nat.lt_of_lt_of_le (by decide) hNB) rfl rfl kw_X4_digest_X4 7 (by decide) (List.mem_of_getElem? (i := 5) rfl) (v := .ref (B 32)) rfl dX4_digest_28 ?_
  refine lv_iload_n hx hb dX4_digest_31 rfl (lv_at hl 1 rfl) ?_
  refine rr_callV (As := [.int x]) C hN 32 (Nat.lt_of_lt_of_le (by decide) hNB) rfl rfl rfl (ct_X2_resultOctet l hi32 hxi hNB) gX4_digest_X2_resultOctet rfl rfl rfl 1 (by decide +kernel) ⟨Nat.le_of_ble_eq_true rfl, Nat.le_of_ble_eq_true rfl⟩ rfl hl.1 rfl (Nat.le_of_ble_eq_true rfl) ⟨Nat.zero_le _, Nat.zero_le _⟩ dX4_digest_32 (fun H locs hN => ?_)
  exact rr_zret C hN dX4_digest_35 (pk_nb _) rfl rfl
set_option maxHeartbeats 4000000 in
set_option maxRecDepth 100000 in
theorem ct_X4_bank0 (l : Launch) {D : va_G} {ca : Nat → ClassId} {B : Nat → Nat} {N n : Nat} {X : va_W} {u : ww_U} {x : Int32} (h : x < 1 ∨ u 29 1 < x) (y : Int32) (i : Int64) (hNn : 36 + 8 * n ≤ N)  : ww_M l yX4_bank wsX4_bank ({ frames := 1, cells := 0, slots := 0, locals := 21 } : Room) D ca B N n X u [.ref (B 29), .int x, .int y, .long i] (some (.int 0)) u := by
  refine ww_met (cc := cX4_bank) (maxL := 6) (ret := (some .byte)) (by decide) rfl (Nat.le_of_ble_eq_true rfl) ?_
  intro p e s m args below meth c C hN ls hl
  have hl : lv_has ls 6 [(0, .ref (B 29)), (1, .int x), (2, .int y), (3, .long i)] := hl
  have hx := C.1.1
  have hb := C.1.2.1
  have hNB : 36 ≤ N := by omega
  have hNN : 29 ≤ N := by omega
  refine lv_aload_n hx hb dX4_bank_0 rfl (lv_at hl 0 rfl) ?_
  refine lv_iload_n hx hb dX4_bank_1 rfl (lv_at hl 1 rfl) ?_
  refine rr_callV (As := [.int x]) C hN 29 (Nat.lt_of_lt_of_le (by decide) hNB) rfl rfl rfl (ct_X4_find0 l h hNn) gX4_bank_X4_find rfl rfl rfl 1 (by decide +kernel) ⟨Nat.le_of_ble_eq_true rfl, Nat.le_of_ble_eq_true rfl⟩ rfl hl.1 rfl (Nat.le_of_ble_eq_true rfl) ⟨Nat.zero_le _, Nat.zero_le _⟩ dX4_bank_2 (fun H locs hN => ?_)
  refine lv_astoreN (lv' := [(5, .null), (0, .ref (B 29)), (1, .int x), (2, .int y), (3, .long i)]) hx hb dX4_bank_5 hl (by decide) rfl (fun ls hl => ?_)
  refine lv_aloadN hx hb dX4_bank_7 (lv_at hl 0 rfl) ?_
  refine lv_ifnonnullN hx hb dX4_bank_9 ?_
  refine lv_iconst (v := 0) hx hb dX4_bank_12 (by decide) ?_
  exact rr_zret C hN dX4_bank_13 (by first | rfl | decide) rfl rfl
set_option maxRecDepth 20000 in
theorem kw_X4_bank_X0 : ww_K wsX4_bank RX0 TX0 3 tyX0 := ⟨by decide +kernel, tyX0_ok, nmX0⟩
set_option maxRecDepth 20000 in
theorem kw_X4_bank_X1 : ww_K wsX4_bank RX1 TX1 10 tyX1 := ⟨by decide +kernel, tyX1_ok, nmX1⟩
set_option maxHeartbeats 4000000 in
set_option maxRecDepth 100000 in
theorem ct_X4_bank2 (l : Launch) {D : va_G} {ca : Nat → ClassId} {B : Nat → Nat} {N n : Nat} {X : va_W} {u : ww_U} {x : Int32} (j : Nat) (hj : j < 8) (hj2 : j < n) (hxj : x = nI (j + 1)) (hx1 : ¬ x < 1) (hx2 : x ≤ u 29 1) {y : Int32} {i : Int64} {b0 i0 : Nat} (hb2 : b0 < 2) (hyb : y = nI b0) (hi2 : i0 < 256) (hii : i = lN i0) (hby : (u (kO j b0) i0).toInt8.toInt32 = u (kO j b0) i0) (hNn : 36 + 8 * n ≤ N)  : ww_M l yX4_bank wsX4_bank ({ frames := 1, cells := 0, slots := 0, locals := 21 } : Room) D ca B N n X u [.ref (B 29), .int x, .int y, .long i] (some (.int (u (kO j b0) i0))) u := by
  refine ww_met (cc := cX4_bank) (maxL := 6) (ret := (some .byte)) (by decide) rfl (Nat.le_of_ble_eq_true rfl) ?_
  intro p e s m args below meth c C hN ls hl
  have hl : lv_has ls 6 [(0, .ref (B 29)), (1, .int x), (2, .int y), (3, .long i)] := hl
  have hx := C.1.1
  have hb := C.1.2.1
  have hNB : 36 ≤ N := by omega
  have hNN : 29 ≤ N := by omega
  refine lv_aload_n hx hb dX4_bank_0 rfl (lv_at hl 0 rfl) ?_
  refine lv_iload_n hx hb dX4_bank_1 rfl (lv_at hl 1 rfl) ?_
  refine rr_callV (As := [.int x]) C hN 29 (Nat.lt_of_lt_of_le (by decide) hNB) rfl rfl rfl (ct_X4_find l j hj hj2 hxj hNn hx1 hx2) gX4_bank_X4_find rfl rfl rfl 1 (by decide +kernel) ⟨Nat.le_of_ble_eq_true rfl, Nat.le_of_ble_eq_true rfl⟩ rfl hl.1 rfl (Nat.le_of_ble_eq_true rfl) ⟨Nat.zero_le _, Nat.zero_le _⟩ dX4_bank_2 (fun H locs hN => ?_)
  refine lv_astore (lv' := [(5, .ref (B (kC j))), (0, .ref (B 29)), (1, .int x), (2, .int y), (3, .long i)]) hx hb dX4_bank_5 hl (by decide) rfl (fun ls hl => ?_)
  refine lv_aload hx hb dX4_bank_7 (lv_at hl 0 rfl) ?_
  refine lv_ifnonnull (tgt := 14) hx hb dX4_bank_9 (by decide) ?_
  refine lv_iload_n hx hb dX4_bank_14 rfl (lv_at hl 3 rfl) ?_
  refine lv_if_lt (tgt := 37) hx hb dX4_bank_15 (by decide) (fun c_15 => absurd c_15 (by rw [hyb]; exact nI_pos (by omega))) (fun c_15 => ?_)
  refine lv_iload_n hx hb dX4_bank_18 rfl (lv_at hl 3 rfl) ?_
  refine lv_iconst (v := 2) hx hb dX4_bank_19 (by decide) ?_
  refine lv_icmp_ge (tgt := 37) hx hb dX4_bank_20 (by decide) (fun c_20 => absurd c_20 (by rw [hyb]; exact (show ¬ nI 2 ≤ nI b0 from nI_ge (by omega) (by omega)))) (fun c_20 => ?_)
  refine lv_lload_n hx hb dX4_bank_23 rfl (lv_at hl 4 rfl) ?_
  refine lv_lconst (v := 0) hx hb dX4_bank_24 (by decide) ?_
  refine W.lcmp hx hb dX4_bank_25 ?_
  refine lv_topi (fun v1 ev1 => ?_)
  refine lv_if_lt (tgt := 37) hx hb dX4_bank_26 (by decide) (fun c_26 => absurd c_26 (by rw [ev1, lg_cmp_lt, hii]; exact (show ¬ lN i0 < lN 0 from fun z => absurd ((lN_lt (by omega) (by omega)).mp z) (by omega)))) (fun c_26 => ?_)
  refine lv_lload_n hx hb dX4_bank_29 rfl (lv_at hl 4 rfl) ?_
  refine lv_ldc2 (v := 256) hx hb C.1.2.2.2.1 (C.1.2.2.2.2 _ (List.mem_of_getElem? (i := 1) rfl)) dX4_bank_30 ?_
  refine W.lcmp hx hb dX4_bank_33 ?_
  refine lv_topi (fun v2 ev2 => ?_)
  refine lv_if_lt (tgt := 47) hx hb dX4_bank_34 (by decide) (fun c_34 => ?_) (fun c_34 => absurd c_34 (fun h => h (by rw [ev2, lg_cmp_lt, hii]; exact (lN_lt (a := i0) (b := 256) (by omega) (by omega)).mpr (by omega))))
  refine lv_aload hx hb dX4_bank_47 (lv_at hl 0 rfl) ?_
  refine rr_get C hN (kC j) (kC_lt hNn hj2) hC_ce rfl kw_X4_bank_X1 1 (by decide) (List.mem_of_getElem? (i := 5) rfl) (v := .ref (B (kR j))) rfl dX4_bank_49 ?_
  refine lv_iload_n hx hb dX4_bank_52 rfl (lv_at hl 3 rfl) ?_
  refine rr_ald C hN (kR j) (kR_lt hNn hj2) 4 hR_ce rfl (by decide) b0 hb2 hyb (v := .ref (B (kB j b0))) (congrArg (fun z => Value.ref (B z)) (by simp only [kR, kB])) dX4_bank_53 ?_
  refine rr_get C hN (kB j b0) (kB_lt hNn hj2 hb2) (hB_ce hb2) rfl kw_X4_bank_X0 0 (by decide) (List.mem_of_getElem? (i := 6) rfl) (v := .ref (B (kO j b0))) rfl dX4_bank_54 ?_
  refine lv_lload_n hx hb dX4_bank_57 rfl (lv_at hl 4 rfl) ?_
  refine lv_l2i hx hb dX4_bank_58 rfl ?_
  refine lv_topi (fun v3 ev3 => ?_)
  refine rr_bald C hN (kO j b0) (kO_lt hNn hj2 hb2) (hO_ce hb2) (by decide) i0 hi2 (by rw [ev3, hii, lN_i]) dX4_bank_59 ?_
  exact rr_zret C hN dX4_bank_60 (by rw [← hby]; exact pk_nb _) rfl rfl
