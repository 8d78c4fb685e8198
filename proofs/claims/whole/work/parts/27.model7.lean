def mo_wr (u : ww_U) (q : Nat) : Prop := mo_st u q = 1 → ∃ w len, u 15 (mo_rd u 4 q) = nI w ∧ u 13 (mo_rd u 4 q) = nI len ∧ 16 * w < len ∧ len ≤ 256
def mo_wrt (u : ww_U) (q : Nat) : ww_U := mo_write u q (mo_rd u 4 q) (1 - mo_rd u 2 q) (mo_rd u 15 (mo_rd u 4 q)) (mo_rd u 13 (mo_rd u 4 q))
def mo_cmt (P : Nat) (u : ww_U) (q : Nat) : Int32 := if mo_ho u = 0 then 0 else if mo_all P 1 (u 17 (mo_rd u 4 q)) 2 u 1 = 0 then 0 else 1
def mo_stp (P : Nat) (u : ww_U) (q : Nat) : ww_U × Int32 :=
  if mo_th u q = 0 then (u, -3)
  else if mo_st u q = 1 then (if mo_ho u = 0 then (u, mo_st u q) else (mo_wrt u q, mo_st (mo_wrt u q) q))
  else if mo_st u q = 2 then (if u 18 (mo_rd u 17 (mo_rd u 4 q)) = 0 then (ww_up u 18 (mo_rd u 17 (mo_rd u 4 q)) (mo_cmt P u q), mo_st (ww_up u 18 (mo_rd u 17 (mo_rd u 4 q)) (mo_cmt P u q)) q) else (mo_change P u q (mo_rd u 4 q), 3))
  else (u, mo_st u q)
def mo_step (P : Nat) (u : ww_U) (q : Nat) : ww_U × Int32 := mo_stp P (mo_z u) q
def mo_bt (P : Nat) (u : ww_U) (q : Nat) : ww_U := if u 5 q = 0 then ww_up u 5 q 0 else if mo_st (ww_up u 5 q 0) q = 2 then (if u 18 (mo_rd u 17 (mo_rd u 4 q)) = 0 then ww_up u 5 q 0 else mo_change P (ww_up u 5 q 0) q (mo_rd u 4 q)) else ww_up u 5 q 0
def mo_boot (P : Nat) (u : ww_U) (q : Nat) : ww_U := mo_bt P (mo_z u) q
theorem mo_chl_ne {d k a : Nat} {u : ww_U} (h : a ≠ 4) : mo_chl d k u a = u a := by
  induction d generalizing k u with
  | zero => rfl
  | succ d ih =>
    unfold mo_chl
    split
    · rw [ih, ww_up_ne h]
    · exact ih
theorem mo_change_2 {P : Nat} {u : ww_U} {q p : Nat} : mo_change P u q p 2 q = 1 - u 2 q := by
  unfold mo_change
  split
  · rw [ww_up_ne (by decide)]; unfold mo_sw; rw [ww_up_ne (by decide), ww_up_self]
  · rw [mo_chl_ne (by decide), ww_up_ne (by decide), ww_up_ne (by decide)]; unfold mo_sw; rw [ww_up_ne (by decide), ww_up_self]
set_option maxHeartbeats 4000000 in
set_option maxRecDepth 100000 in
theorem ct_X5_step0 (l : Launch) {D : va_G} {ca : Nat → ClassId} {B : Nat → Nat} {N n : Nat} {X : va_W} {u : ww_U} {x : Int32} (h : x < 1 ∨ u 0 1 < x) (hNN : 29 ≤ N)  : ww_M l yX5_step wsX5_step ({ frames := 3, cells := 0, slots := 0, locals := 68 } : Room) D ca B N n X u [.ref (B 0), .int x] (some (.int (-1))) (mo_z u) := by
  refine ww_met (cc := cX5_step) (maxL := 3) (ret := (some .int)) (by decide) rfl (Nat.le_of_ble_eq_true rfl) ?_
  intro p e s m args below meth c C hN ls hl
  have hl : lv_has ls 3 [(0, .ref (B 0)), (1, .int x)] := hl
  have hx := C.1.1
  have hb := C.1.2.1
  refine lv_aload_n hx hb dX5_step_0 rfl (lv_at hl 0 rfl) ?_
  refine lv_iload_n hx hb dX5_step_1 rfl (lv_at hl 1 rfl) ?_
  refine rr_callV (As := [.int x]) C hN 0 (Nat.lt_of_lt_of_le (by decide) hNN) rfl rfl rfl (ct_X5_none l x hNN) gX5_step_X5_none rfl rfl rfl 1 (by decide +kernel) ⟨Nat.le_of_ble_eq_true rfl, Nat.le_of_ble_eq_true rfl⟩ rfl hl.1 rfl (Nat.le_of_ble_eq_true rfl) ⟨Nat.zero_le _, Nat.zero_le _⟩ dX5_step_2 (fun H locs hN => ?_)
  refine lv_topi (fun v1 ev1 => ?_)
  refine lv_if_eq (tgt := 10) hx hb dX5_step_5 (by decide) (fun c_5 => absurd c_5 (by rw [ev1, mo_none_1 h]; decide)) (fun c_5 => ?_)
  refine lv_iconst (v := (-1)) hx hb dX5_step_8 (by decide) ?_
  exact rr_iret C hN dX5_step_9 rfl rfl
set_option maxRecDepth 20000 in
theorem kw_X5_step_X5 : ww_K wsX5_step RX5 TX5 36 tyX5 := ⟨by decide +kernel, tyX5_ok, nmX5⟩
set_option maxHeartbeats 4000000 in
set_option maxRecDepth 100000 in
theorem ct_X5_step (l : Launch) {D : va_G} {ca : Nat → ClassId} {B : Nat → Nat} {N n : Nat} {X : va_W} {u : ww_U} {x : Int32} {q : Nat} (hq1 : 1 ≤ q) (hq8 : q ≤ 8) (hxq : x = nI q) (hxc : x ≤ u 0 1) {P : Nat} (hP60 : P ≤ 60) (hpk : u 0 12 = nI P) (hof : mo_of u) (hop : okn (u 4 q) 60) (hse : mo_se u) (hru : okn (u 2 q) 1) (hwr : mo_wr u q) (hNN : 29 ≤ N)  : ww_M l yX5_step wsX5_step ({ frames := 3, cells := 0, slots := 0, locals := 68 } : Room) D ca B N n X u [.ref (B 0), .int x] (some (.int (mo_step P u q).2)) (mo_step P u q).1 := by
  refine ww_met (cc := cX5_step) (maxL := 3) (ret := (some .int)) (by decide) rfl (Nat.le_of_ble_eq_true rfl) ?_
  intro p e s m args below meth c C hN ls hl
  have hl : lv_has ls 3 [(0, .ref (B 0)), (1, .int x)] := hl
  have hx := C.1.1
  have hb := C.1.2.1
  have hx1 : ¬ x < 1 := by rw [hxq]; exact (show ¬ nI q < nI 1 from nI_nlt (by omega) (by omega))
  refine lv_aload_n hx hb dX5_step_0 rfl (lv_at hl 0 rfl) ?_
  refine lv_iload_n hx hb dX5_step_1 rfl (lv_at hl 1 rfl) ?_
  refine rr_callV (As := [.int x]) C hN 0 (Nat.lt_of_lt_of_le (by decide) hNN) rfl rfl rfl (ct_X5_none l x hNN) gX5_step_X5_none rfl rfl rfl 1 (by decide +kernel) ⟨Nat.le_of_ble_eq_true rfl, Nat.le_of_ble_eq_true rfl⟩ rfl hl.1 rfl (Nat.le_of_ble_eq_true rfl) ⟨Nat.zero_le _, Nat.zero_le _⟩ dX5_step_2 (fun H locs hN => ?_)
  refine lv_topi (fun v1 ev1 => ?_)
  refine lv_if_eq (tgt := 10) hx hb dX5_step_5 (by decide) (fun c_5 => ?_) (fun c_5 => absurd c_5 (fun h => h (by rw [ev1]; exact mo_none_0 hx1 hxc)))
  refine lv_aload_n hx hb dX5_step_10 rfl (lv_at hl 0 rfl) ?_
  refine lv_iload_n hx hb dX5_step_11 rfl (lv_at hl 1 rfl) ?_
  refine rr_callV (As := [.int x]) C hN 0 (Nat.lt_of_lt_of_le (by decide) hNN) rfl rfl rfl (ct_X5_there l hq8 hxq hNN) gX5_step_X5_there rfl rfl rfl 1 (by decide +kernel) ⟨Nat.le_of_ble_eq_true rfl, Nat.le_of_ble_eq_true rfl⟩ rfl hl.1 rfl (Nat.le_of_ble_eq_true rfl) ⟨Nat.zero_le _, Nat.zero_le _⟩ dX5_step_12 (fun H locs hN => ?_)
  refine lv_topi (fun v2 ev2 => ?_)
  refine lv_if_ne (tgt := 21) hx hb dX5_step_15 (by decide) (fun c_15 => ?_) (fun c_15 => ?_)
  · have hT0 : ¬ mo_th (mo_z u) q = 0 := by rw [← ev2]; exact c_15
    refine lv_aload_n hx hb dX5_step_21 rfl (lv_at hl 0 rfl) ?_
    refine rr_get C hN 0 (Nat.lt_of_lt_of_le (by decide) hNN) rfl rfl kw_X5_step_X5 5 (by decide) (List.mem_of_getElem? (i := 1) rfl) (v := .ref (B 4)) rfl dX5_step_22 ?_
    refine lv_iload_n hx hb dX5_step_25 rfl (lv_at hl 1 rfl) ?_
    refine rr_iald C hN 4 (Nat.lt_of_lt_of_le (by decide) hNN) rfl (by decide) q (by omega) hxq dX5_step_26 ?_
    refine lv_istore_n (lv' := [(2, .int ((mo_z u) 4 q)), (0, .ref (B 0)), (1, .int x)]) hx hb dX5_step_27 rfl hl (by decide) rfl (fun ls hl => ?_)
    refine lv_aload_n hx hb dX5_step_28 rfl (lv_at hl 1 rfl) ?_
    refine lv_iload_n hx hb dX5_step_29 rfl (lv_at hl 2 rfl) ?_
    refine rr_callV (As := [.int x]) C hN 0 (Nat.lt_of_lt_of_le (by decide) hNN) rfl rfl rfl (ct_X5_stateOf l hq8 hxq hNN hop) gX5_step_X5_stateOf rfl rfl rfl 1 (by decide +kernel) ⟨Nat.le_of_ble_eq_true rfl, Nat.le_of_ble_eq_true rfl⟩ rfl hl.1 rfl (Nat.le_of_ble_eq_true rfl) ⟨Nat.zero_le _, Nat.zero_le _⟩ dX5_step_30 (fun H locs hN => ?_)
    refine lv_topi (fun v3 ev3 => ?_)
    refine lv_iconst (v := 1) hx hb dX5_step_33 (by decide) ?_
    refine lv_icmp_ne (tgt := 52) hx hb dX5_step_34 (by decide) (fun c_34 => ?_) (fun c_34 => ?_)
    · have h1 : ¬ mo_st (mo_z u) q = 1 := by rw [← ev3]; exact c_34
      refine lv_aload_n hx hb dX5_step_52 rfl (lv_at hl 1 rfl) ?_
      refine lv_iload_n hx hb dX5_step_53 rfl (lv_at hl 2 rfl) ?_
      refine rr_callV (As := [.int x]) C hN 0 (Nat.lt_of_lt_of_le (by decide) hNN) rfl rfl rfl (ct_X5_stateOf l hq8 hxq hNN hop) gX5_step_X5_stateOf rfl rfl rfl 1 (by decide +kernel) ⟨Nat.le_of_ble_eq_true rfl, Nat.le_of_ble_eq_true rfl⟩ rfl hl.1 rfl (Nat.le_of_ble_eq_true rfl) ⟨Nat.zero_le _, Nat.zero_le _⟩ dX5_step_54 (fun H locs hN => ?_)
      refine lv_topi (fun v4 ev4 => ?_)
      refine lv_iconst (v := 2) hx hb dX5_step_57 (by decide) ?_
      refine lv_icmp_ne (tgt := 82) hx hb dX5_step_58 (by decide) (fun c_58 => ?_) (fun c_58 => ?_)
      · have h2 : ¬ mo_st (mo_z u) q = 2 := by rw [← ev4]; exact c_58
        refine lv_aload_n hx hb dX5_step_82 rfl (lv_at hl 1 rfl) ?_
        refine lv_iload_n hx hb dX5_step_83 rfl (lv_at hl 2 rfl) ?_
        refine rr_callV (As := [.int x]) C hN 0 (Nat.lt_of_lt_of_le (by decide) hNN) rfl rfl rfl (ct_X5_stateOf l hq8 hxq hNN hop) gX5_step_X5_stateOf rfl rfl rfl 1 (by decide +kernel) ⟨Nat.le_of_ble_eq_true rfl, Nat.le_of_ble_eq_true rfl⟩ rfl hl.1 rfl (Nat.le_of_ble_eq_true rfl) ⟨Nat.zero_le _, Nat.zero_le _⟩ dX5_step_84 (fun H locs hN => ?_)
        refine lv_topi (fun v5 ev5 => ?_)
        refine lv_iconst (v := 2) hx hb dX5_step_87 (by decide) ?_
        refine lv_icmp_ne (tgt := 128) hx hb dX5_step_88 (by decide) (fun c_88 => ?_) (fun c_88 => absurd c_88 (by rw [ev5]; exact h2))
        refine lv_aload_n hx hb dX5_step_128 rfl (lv_at hl 1 rfl) ?_
        refine lv_iload_n hx hb dX5_step_129 rfl (lv_at hl 2 rfl) ?_
        refine rr_callV (As := [.int x]) C hN 0 (Nat.lt_of_lt_of_le (by decide) hNN) rfl rfl rfl (ct_X5_stateOf l hq8 hxq hNN hop) gX5_step_X5_stateOf rfl rfl rfl 1 (by decide +kernel) ⟨Nat.le_of_ble_eq_true rfl, Nat.le_of_ble_eq_true rfl⟩ rfl hl.1 rfl (Nat.le_of_ble_eq_true rfl) ⟨Nat.zero_le _, Nat.zero_le _⟩ dX5_step_130 (fun H locs hN => ?_)
        refine lv_topi (fun v6 ev6 => ?_)
        exact rr_iret C hN dX5_step_133 (by unfold mo_step mo_stp; rw [if_neg hT0, if_neg h1, if_neg h2, ev6]) (by unfold mo_step mo_stp; rw [if_neg hT0, if_neg h1, if_neg h2])
      · have h2 : mo_st (mo_z u) q = 2 := by rw [← ev4]; exact c_58
        refine lv_aload_n hx hb dX5_step_61 rfl (lv_at hl 1 rfl) ?_
        refine rr_get C hN 0 (Nat.lt_of_lt_of_le (by decide) hNN) rfl rfl kw_X5_step_X5 20 (by decide) (List.mem_of_getElem? (i := 2) rfl) (v := .ref (B 18)) rfl dX5_step_62 ?_
        refine lv_aload_n hx hb dX5_step_65 rfl (lv_at hl 1 rfl) ?_
        refine rr_get C hN 0 (Nat.lt_of_lt_of_le (by decide) hNN) rfl rfl kw_X5_step_X5 19 (by decide) (List.mem_of_getElem? (i := 3) rfl) (v := .ref (B 17)) rfl dX5_step_66 ?_
        refine lv_iload_n hx hb dX5_step_69 rfl (lv_at hl 0 rfl) ?_
        refine rr_iald C hN 17 (Nat.lt_of_lt_of_le (by decide) hNN) rfl (by decide) (mo_rd (mo_z u) 4 q) (Nat.lt_succ_of_le hop.2) hop.1 dX5_step_70 ?_
        refine rr_zald C hN 18 (Nat.lt_of_lt_of_le (by decide) hNN) rfl (by decide) (mo_rd (mo_z u) 17 (mo_rd (mo_z u) 4 q)) (Nat.lt_succ_of_le (hse _ hop.2).2) (hse _ hop.2).1 dX5_step_71 ?_
        refine lv_if_eq (tgt := 82) hx hb dX5_step_72 (by decide) (fun c_72 => ?_) (fun c_72 => ?_)
        · have hC : mo_z u 18 (mo_rd (mo_z u) 17 (mo_rd (mo_z u) 4 q)) = 0 := c_72
          refine lv_aload_n hx hb dX5_step_82 rfl (lv_at hl 1 rfl) ?_
          refine lv_iload_n hx hb dX5_step_83 rfl (lv_at hl 2 rfl) ?_
          refine rr_callV (As := [.int x]) C hN 0 (Nat.lt_of_lt_of_le (by decide) hNN) rfl rfl rfl (ct_X5_stateOf l hq8 hxq hNN hop) gX5_step_X5_stateOf rfl rfl rfl 1 (by decide +kernel) ⟨Nat.le_of_ble_eq_true rfl, Nat.le_of_ble_eq_true rfl⟩ rfl hl.1 rfl (Nat.le_of_ble_eq_true rfl) ⟨Nat.zero_le _, Nat.zero_le _⟩ dX5_step_84 (fun H locs hN => ?_)
          refine lv_topi (fun v7 ev7 => ?_)
          refine lv_iconst (v := 2) hx hb dX5_step_87 (by decide) ?_
          refine lv_icmp_ne (tgt := 128) hx hb dX5_step_88 (by decide) (fun c_88 => absurd c_88 (fun h => h (by rw [ev7]; exact h2))) (fun c_88 => ?_)
          refine lv_aload_n hx hb dX5_step_91 rfl (lv_at hl 1 rfl) ?_
          refine rr_get C hN 0 (Nat.lt_of_lt_of_le (by decide) hNN) rfl rfl kw_X5_step_X5 20 (by decide) (List.mem_of_getElem? (i := 2) rfl) (v := .ref (B 18)) rfl dX5_step_92 ?_
          refine lv_aload_n hx hb dX5_step_95 rfl (lv_at hl 1 rfl) ?_
          refine rr_get C hN 0 (Nat.lt_of_lt_of_le (by decide) hNN) rfl rfl kw_X5_step_X5 19 (by decide) (List.mem_of_getElem? (i := 3) rfl) (v := .ref (B 17)) rfl dX5_step_96 ?_
          refine lv_iload_n hx hb dX5_step_99 rfl (lv_at hl 0 rfl) ?_
          refine rr_iald C hN 17 (Nat.lt_of_lt_of_le (by decide) hNN) rfl (by decide) (mo_rd (mo_z u) 4 q) (Nat.lt_succ_of_le hop.2) hop.1 dX5_step_100 ?_
          refine lv_aload_n hx hb dX5_step_101 rfl (lv_at hl 1 rfl) ?_
          refine rr_callV (As := []) C hN 0 (Nat.lt_of_lt_of_le (by decide) hNN) rfl rfl rfl (ct_X5_hold l hNN) gX5_step_X5_hold rfl rfl rfl 0 (by decide +kernel) ⟨Nat.le_of_ble_eq_true rfl, Nat.le_of_ble_eq_true rfl⟩ rfl hl.1 rfl (Nat.le_of_ble_eq_true rfl) ⟨Nat.zero_le _, Nat.zero_le _⟩ dX5_step_102 (fun H locs hN => ?_)
          refine lv_topi (fun v8 ev8 => ?_)
          refine lv_if_eq (tgt := 126) hx hb dX5_step_105 (by decide) (fun c_105 => ?_) (fun c_105 => ?_)
          · refine lv_iconst (v := 0) hx hb dX5_step_126 (by decide) ?_
            refine rr_zast C hN 18 (Nat.lt_of_lt_of_le (by decide) hNN) (fun _ => rfl) (by decide) (mo_rd (mo_z u) 17 (mo_rd (mo_z u) 4 q)) (Nat.lt_succ_of_le (hse _ hop.2).2) (hse _ hop.2).1 dX5_step_127 (fun u9 eu9 H locs hN => ?_)
            have hUC : ww_up (mo_z u) 18 (mo_rd (mo_z u) 17 (mo_rd (mo_z u) 4 q)) (mo_cmt P (mo_z u) q) = u9 := by unfold mo_cmt; rw [if_pos (by rw [← ev8]; exact c_105)]; rw [eu9]; rfl
            refine lv_aload_n hx hb dX5_step_128 rfl (lv_at hl 1 rfl) ?_
            refine lv_iload_n hx hb dX5_step_129 rfl (lv_at hl 2 rfl) ?_
            refine rr_callV (As := [.int x]) C hN 0 (Nat.lt_of_lt_of_le (by decide) hNN) rfl rfl rfl (ct_X5_stateOf l hq8 hxq hNN (by rw [eu9]; first | exact hop | (show okn (mo_write _ _ _ _ _ _ 4 q) 60; rw [mo_write_4]; exact hop))) gX5_step_X5_stateOf rfl rfl rfl 1 (by decide +kernel) ⟨Nat.le_of_ble_eq_true rfl, Nat.le_of_ble_eq_true rfl⟩ rfl hl.1 rfl (Nat.le_of_ble_eq_true rfl) ⟨Nat.zero_le _, Nat.zero_le _⟩ dX5_step_130 (fun H locs hN => ?_)
            refine lv_topi (fun v10 ev10 => ?_)
            exact rr_iret C hN dX5_step_133 (by unfold mo_step mo_stp; rw [if_neg hT0, if_neg h1, if_pos h2, if_pos hC, ev10, hUC]) (by unfold mo_step mo_stp; rw [if_neg hT0, if_neg h1, if_pos h2, if_pos hC, hUC])
          · refine lv_aload_n hx hb dX5_step_108 rfl (lv_at hl 1 rfl) ?_
            refine lv_aload_n hx hb dX5_step_109 rfl (lv_at hl 1 rfl) ?_
            refine rr_get C hN 0 (Nat.lt_of_lt_of_le (by decide) hNN) rfl rfl kw_X5_step_X5 19 (by decide) (List.mem_of_getElem? (i := 3) rfl) (v := .ref (B 17)) rfl dX5_step_110 ?_
            refine lv_iload_n hx hb dX5_step_113 rfl (lv_at hl 0 rfl) ?_
            refine rr_iald C hN 17 (Nat.lt_of_lt_of_le (by decide) hNN) rfl (by decide) (mo_rd (mo_z u) 4 q) (Nat.lt_succ_of_le hop.2) hop.1 dX5_step_114 ?_
            refine lv_iconst (v := 2) hx hb dX5_step_115 (by decide) ?_
            refine rr_callV (As := [.int ((mo_z u) 17 (mo_rd (mo_z u) 4 q)), .int 2]) C hN 0 (Nat.lt_of_lt_of_le (by decide) hNN) rfl rfl rfl (ct_X5_allIn l ((mo_z u) 17 (mo_rd (mo_z u) 4 q)) 2 hP60 hpk hof hNN) gX5_step_X5_allIn rfl rfl rfl 2 (by decide +kernel) ⟨Nat.le_of_ble_eq_true rfl, Nat.le_of_ble_eq_true rfl⟩ rfl hl.1 rfl (Nat.le_of_ble_eq_true rfl) ⟨Nat.zero_le _, Nat.zero_le _⟩ dX5_step_116 (fun H locs hN => ?_)
            refine lv_topi (fun v11 ev11 => ?_)
            refine lv_if_eq (tgt := 126) hx hb dX5_step_119 (by decide) (fun c_119 => ?_) (fun c_119 => ?_)
            · refine lv_iconst (v := 0) hx hb dX5_step_126 (by decide) ?_
              refine rr_zast C hN 18 (Nat.lt_of_lt_of_le (by decide) hNN) (fun _ => rfl) (by decide) (mo_rd (mo_z u) 17 (mo_rd (mo_z u) 4 q)) (Nat.lt_succ_of_le (hse _ hop.2).2) (hse _ hop.2).1 dX5_step_127 (fun u12 eu12 H locs hN => ?_)
              have hUC : ww_up (mo_z u) 18 (mo_rd (mo_z u) 17 (mo_rd (mo_z u) 4 q)) (mo_cmt P (mo_z u) q) = u12 := by unfold mo_cmt; rw [if_neg (by rw [← ev8]; exact c_105)]; (first | rw [if_pos (by rw [← ev11]; exact c_119)] | rw [if_neg (by rw [← ev11]; exact c_119)]); rw [eu12]; rfl
              refine lv_aload_n hx hb dX5_step_128 rfl (lv_at hl 1 rfl) ?_
              refine lv_iload_n hx hb dX5_step_129 rfl (lv_at hl 2 rfl) ?_
              refine rr_callV (As := [.int x]) C hN 0 (Nat.lt_of_lt_of_le (by decide) hNN) rfl rfl rfl (ct_X5_stateOf l hq8 hxq hNN (by rw [eu12]; first | exact hop | (show okn (mo_write _ _ _ _ _ _ 4 q) 60; rw [mo_write_4]; exact hop))) gX5_step_X5_stateOf rfl rfl rfl 1 (by decide +kernel) ⟨Nat.le_of_ble_eq_true rfl, Nat.le_of_ble_eq_true rfl⟩ rfl hl.1 rfl (Nat.le_of_ble_eq_true rfl) ⟨Nat.zero_le _, Nat.zero_le _⟩ dX5_step_130 (fun H locs hN => ?_)
              refine lv_topi (fun v13 ev13 => ?_)
              exact rr_iret C hN dX5_step_133 (by unfold mo_step mo_stp; rw [if_neg hT0, if_neg h1, if_pos h2, if_pos hC, ev13, hUC]) (by unfold mo_step mo_stp; rw [if_neg hT0, if_neg h1, if_pos h2, if_pos hC, hUC])
            · refine lv_iconst (v := 1) hx hb dX5_step_122 (by decide) ?_
              refine lv_goto (tgt := 127) hx hb dX5_step_123 (by decide) ?_
              refine rr_zast C hN 18 (Nat.lt_of_lt_of_le (by decide) hNN) (fun _ => rfl) (by decide) (mo_rd (mo_z u) 17 (mo_rd (mo_z u) 4 q)) (Nat.lt_succ_of_le (hse _ hop.2).2) (hse _ hop.2).1 dX5_step_127 (fun u14 eu14 H locs hN => ?_)
              have hUC : ww_up (mo_z u) 18 (mo_rd (mo_z u) 17 (mo_rd (mo_z u) 4 q)) (mo_cmt P (mo_z u) q) = u14 := by unfold mo_cmt; rw [if_neg (by rw [← ev8]; exact c_105)]; (first | rw [if_pos (by rw [← ev11]; exact c_119)] | rw [if_neg (by rw [← ev11]; exact c_119)]); rw [eu14]; rfl
              refine lv_aload_n hx hb dX5_step_128 rfl (lv_at hl 1 rfl) ?_
              refine lv_iload_n hx hb dX5_step_129 rfl (lv_at hl 2 rfl) ?_
              refine rr_callV (As := [.int x]) C hN 0 (Nat.lt_of_lt_of_le (by decide) hNN) rfl rfl rfl (ct_X5_stateOf l hq8 hxq hNN (by rw [eu14]; first | exact hop | (show okn (mo_write _ _ _ _ _ _ 4 q) 60; rw [mo_write_4]; exact hop))) gX5_step_X5_stateOf rfl rfl rfl 1 (by decide +kernel) ⟨Nat.le_of_ble_eq_true rfl, Nat.le_of_ble_eq_true rfl⟩ rfl hl.1 rfl (Nat.le_of_ble_eq_true rfl) ⟨Nat.zero_le _, Nat.zero_le _⟩ dX5_step_130 (fun H locs hN => ?_)
              refine lv_topi (fun v15 ev15 => ?_)
              exact rr_iret C hN dX5_step_133 (by unfold mo_step mo_stp; rw [if_neg hT0, if_neg h1, if_pos h2, if_pos hC, ev15, hUC]) (by unfold mo_step mo_stp; rw [if_neg hT0, if_neg h1, if_pos h2, if_pos hC, hUC])
        · have hC : ¬ mo_z u 18 (mo_rd (mo_z u) 17 (mo_rd (mo_z u) 4 q)) = 0 := c_72
          refine lv_aload_n hx hb dX5_step_75 rfl (lv_at hl 1 rfl) ?_
          refine lv_iload_n hx hb dX5_step_76 rfl (lv_at hl 2 rfl) ?_
          refine rr_callV0 (As := [.int x]) C hN 0 (Nat.lt_of_lt_of_le (by decide) hNN) rfl rfl rfl (ct_X5_change l hq8 hxq hP60 hpk hof hop hru hNN) gX5_step_X5_change rfl rfl rfl 1 (by decide +kernel) ⟨Nat.le_of_ble_eq_true rfl, Nat.le_of_ble_eq_true rfl⟩ rfl hl.1 rfl (Nat.le_of_ble_eq_true rfl) ⟨Nat.zero_le _, Nat.zero_le _⟩ dX5_step_77 (fun H locs hN => ?_)
          obtain ⟨u16, eu16⟩ : ∃ y : ww_U, y = mo_change P (mo_z u) q (mo_rd (mo_z u) 4 q) := ⟨_, rfl⟩
          rw [← eu16] at hN
          refine lv_iconst (v := 3) hx hb dX5_step_80 (by decide) ?_
          exact rr_iret C hN dX5_step_81 (by unfold mo_step mo_stp; rw [if_neg hT0, if_neg h1, if_pos h2, if_neg hC]) (by unfold mo_step mo_stp; rw [if_neg hT0, if_neg h1, if_pos h2, if_neg hC, eu16])
    · have h1 : mo_st (mo_z u) q = 1 := by rw [← ev3]; exact c_34
      refine lv_aload_n hx hb dX5_step_37 rfl (lv_at hl 1 rfl) ?_
      refine rr_callV (As := []) C hN 0 (Nat.lt_of_lt_of_le (by decide) hNN) rfl rfl rfl (ct_X5_hold l hNN) gX5_step_X5_hold rfl rfl rfl 0 (by decide +kernel) ⟨Nat.le_of_ble_eq_true rfl, Nat.le_of_ble_eq_true rfl⟩ rfl hl.1 rfl (Nat.le_of_ble_eq_true rfl) ⟨Nat.zero_le _, Nat.zero_le _⟩ dX5_step_38 (fun H locs hN => ?_)
      refine lv_topi (fun v17 ev17 => ?_)
      refine lv_if_eq (tgt := 52) hx hb dX5_step_41 (by decide) (fun c_41 => ?_) (fun c_41 => ?_)
      · have hH : mo_ho (mo_z u) = 0 := by rw [← ev17]; exact c_41
        refine lv_aload_n hx hb dX5_step_52 rfl (lv_at hl 1 rfl) ?_
        refine lv_iload_n hx hb dX5_step_53 rfl (lv_at hl 2 rfl) ?_
        refine rr_callV (As := [.int x]) C hN 0 (Nat.lt_of_lt_of_le (by decide) hNN) rfl rfl rfl (ct_X5_stateOf l hq8 hxq hNN hop) gX5_step_X5_stateOf rfl rfl rfl 1 (by decide +kernel) ⟨Nat.le_of_ble_eq_true rfl, Nat.le_of_ble_eq_true rfl⟩ rfl hl.1 rfl (Nat.le_of_ble_eq_true rfl) ⟨Nat.zero_le _, Nat.zero_le _⟩ dX5_step_54 (fun H locs hN => ?_)
        refine lv_topi (fun v18 ev18 => ?_)
        refine lv_iconst (v := 2) hx hb dX5_step_57 (by decide) ?_
        refine lv_icmp_ne (tgt := 82) hx hb dX5_step_58 (by decide) (fun c_58 => ?_) (fun c_58 => absurd c_58 (by rw [ev18, h1]; decide))
        have h2 : ¬ mo_st (mo_z u) q = 2 := by rw [h1]; decide
        refine lv_aload_n hx hb dX5_step_82 rfl (lv_at hl 1 rfl) ?_
        refine lv_iload_n hx hb dX5_step_83 rfl (lv_at hl 2 rfl) ?_
        refine rr_callV (As := [.int x]) C hN 0 (Nat.lt_of_lt_of_le (by decide) hNN) rfl rfl rfl (ct_X5_stateOf l hq8 hxq hNN hop) gX5_step_X5_stateOf rfl rfl rfl 1 (by decide +kernel) ⟨Nat.le_of_ble_eq_true rfl, Nat.le_of_ble_eq_true rfl⟩ rfl hl.1 rfl (Nat.le_of_ble_eq_true rfl) ⟨Nat.zero_le _, Nat.zero_le _⟩ dX5_step_84 (fun H locs hN => ?_)
        refine lv_topi (fun v19 ev19 => ?_)
        refine lv_iconst (v := 2) hx hb dX5_step_87 (by decide) ?_
        refine lv_icmp_ne (tgt := 128) hx hb dX5_step_88 (by decide) (fun c_88 => ?_) (fun c_88 => absurd c_88 (by rw [ev19]; exact h2))
        refine lv_aload_n hx hb dX5_step_128 rfl (lv_at hl 1 rfl) ?_
        refine lv_iload_n hx hb dX5_step_129 rfl (lv_at hl 2 rfl) ?_
        refine rr_callV (As := [.int x]) C hN 0 (Nat.lt_of_lt_of_le (by decide) hNN) rfl rfl rfl (ct_X5_stateOf l hq8 hxq hNN hop) gX5_step_X5_stateOf rfl rfl rfl 1 (by decide +kernel) ⟨Nat.le_of_ble_eq_true rfl, Nat.le_of_ble_eq_true rfl⟩ rfl hl.1 rfl (Nat.le_of_ble_eq_true rfl) ⟨Nat.zero_le _, Nat.zero_le _⟩ dX5_step_130 (fun H locs hN => ?_)
        refine lv_topi (fun v20 ev20 => ?_)
        exact rr_iret C hN dX5_step_133 (by unfold mo_step mo_stp; rw [if_neg hT0, if_pos h1, if_pos hH, ev20]) (by unfold mo_step mo_stp; rw [if_neg hT0, if_pos h1, if_pos hH])
      · have hH : ¬ mo_ho (mo_z u) = 0 := by rw [← ev17]; exact c_41
        refine lv_aload_n hx hb dX5_step_44 rfl (lv_at hl 1 rfl) ?_
        refine lv_iload_n hx hb dX5_step_45 rfl (lv_at hl 2 rfl) ?_
        obtain ⟨w, len, hwe, hle, hw, hlen⟩ := hwr h1
        have hwt : mo_wrt (mo_z u) q = mo_write (mo_z u) q (mo_rd (mo_z u) 4 q) (1 - (mo_rd (mo_z u) 2 q)) w len := by unfold mo_wrt; rw [show mo_rd (mo_z u) 15 (mo_rd (mo_z u) 4 q) = w from (by show (u 15 (mo_rd u 4 q)).toNatClampNeg = w; rw [hwe]; exact nI_clamp (by omega)), show mo_rd (mo_z u) 13 (mo_rd (mo_z u) 4 q) = len from (by show (u 13 (mo_rd u 4 q)).toNatClampNeg = len; rw [hle]; exact nI_clamp (by omega))]
        refine rr_callV0 (As := [.int x]) C hN 0 (Nat.lt_of_lt_of_le (by decide) hNN) rfl rfl rfl (ct_X5_write l (q := q) (p0 := (mo_rd (mo_z u) 4 q)) (b := 1 - (mo_rd (mo_z u) 2 q)) (w := w) (len := len) hq8 hxq hop.2 hop.1 (by omega) (by have h9 := hru.2; change (mo_rd (mo_z u) 2 q) ≤ 1 at h9; rw [show 1 - (1 - (mo_rd (mo_z u) 2 q)) = (mo_rd (mo_z u) 2 q) by omega]; exact hru.1) hwe hle hlen hw hNN) gX5_step_X5_write rfl rfl rfl 1 (by decide +kernel) ⟨Nat.le_of_ble_eq_true rfl, Nat.le_of_ble_eq_true rfl⟩ rfl hl.1 rfl (Nat.le_of_ble_eq_true rfl) ⟨Nat.zero_le _, Nat.zero_le _⟩ dX5_step_46 (fun H locs hN => ?_)
        obtain ⟨u21, eu21⟩ : ∃ y : ww_U, y = mo_write (mo_z u) q (mo_rd (mo_z u) 4 q) (1 - (mo_rd (mo_z u) 2 q)) w len := ⟨_, rfl⟩
        rw [← eu21] at hN
        refine lv_goto (tgt := 128) hx hb dX5_step_49 (by decide) ?_
        refine lv_aload_n hx hb dX5_step_128 rfl (lv_at hl 1 rfl) ?_
        refine lv_iload_n hx hb dX5_step_129 rfl (lv_at hl 2 rfl) ?_
        refine rr_callV (As := [.int x]) C hN 0 (Nat.lt_of_lt_of_le (by decide) hNN) rfl rfl rfl (ct_X5_stateOf l hq8 hxq hNN (by rw [eu21]; first | exact hop | (show okn (mo_write _ _ _ _ _ _ 4 q) 60; rw [mo_write_4]; exact hop))) gX5_step_X5_stateOf rfl rfl rfl 1 (by decide +kernel) ⟨Nat.le_of_ble_eq_true rfl, Nat.le_of_ble_eq_true rfl⟩ rfl hl.1 rfl (Nat.le_of_ble_eq_true rfl) ⟨Nat.zero_le _, Nat.zero_le _⟩ dX5_step_130 (fun H locs hN => ?_)
        refine lv_topi (fun v22 ev22 => ?_)
        exact rr_iret C hN dX5_step_133 (by unfold mo_step mo_stp; rw [if_neg hT0, if_pos h1, if_neg hH, hwt, ev22, eu21]) (by unfold mo_step mo_stp; rw [if_neg hT0, if_pos h1, if_neg hH, hwt, eu21])
  · have hT0 : mo_th (mo_z u) q = 0 := by rw [← ev2]; exact c_15
    refine lv_bipush (v := (-3)) hx hb dX5_step_18 (by decide) ?_
    exact rr_iret C hN dX5_step_20 (by unfold mo_step mo_stp; rw [if_pos hT0]) (by unfold mo_step mo_stp; rw [if_pos hT0])
set_option maxHeartbeats 4000000 in
set_option maxRecDepth 100000 in
theorem ct_X5_boot0 (l : Launch) {D : va_G} {ca : Nat → ClassId} {B : Nat → Nat} {N n : Nat} {X : va_W} {u : ww_U} {x : Int32} (h : x < 1 ∨ u 0 1 < x) (hNN : 29 ≤ N)  : ww_M l yX5_boot wsX5_boot ({ frames := 3, cells := 0, slots := 0, locals := 68 } : Room) D ca B N n X u [.ref (B 0), .int x] (some (.int (-1))) (mo_z u) := by
  refine ww_met (cc := cX5_boot) (maxL := 3) (ret := (some .int)) (by decide) rfl (Nat.le_of_ble_eq_true rfl) ?_
  intro p e s m args below meth c C hN ls hl
  have hl : lv_has ls 3 [(0, .ref (B 0)), (1, .int x)] := hl
  have hx := C.1.1
  have hb := C.1.2.1
  refine lv_aload_n hx hb dX5_boot_0 rfl (lv_at hl 0 rfl) ?_
  refine lv_iload_n hx hb dX5_boot_1 rfl (lv_at hl 1 rfl) ?_
  refine rr_callV (As := [.int x]) C hN 0 (Nat.lt_of_lt_of_le (by decide) hNN) rfl rfl rfl (ct_X5_none l x hNN) gX5_boot_X5_none rfl rfl rfl 1 (by decide +kernel) ⟨Nat.le_of_ble_eq_true rfl, Nat.le_of_ble_eq_true rfl⟩ rfl hl.1 rfl (Nat.le_of_ble_eq_true rfl) ⟨Nat.zero_le _, Nat.zero_le _⟩ dX5_boot_2 (fun H locs hN => ?_)
  refine lv_topi (fun v1 ev1 => ?_)
  refine lv_if_eq (tgt := 10) hx hb dX5_boot_5 (by decide) (fun c_5 => absurd c_5 (by rw [ev1, mo_none_1 h]; decide)) (fun c_5 => ?_)
  refine lv_iconst (v := (-1)) hx hb dX5_boot_8 (by decide) ?_
  exact rr_iret C hN dX5_boot_9 rfl rfl
set_option maxRecDepth 20000 in
theorem kw_X5_boot_X5 : ww_K wsX5_boot RX5 TX5 36 tyX5 := ⟨by decide +kernel, tyX5_ok, nmX5⟩
set_option maxHeartbeats 4000000 in
set_option maxRecDepth 100000 in
theorem ct_X5_boot (l : Launch) {D : va_G} {ca : Nat → ClassId} {B : Nat → Nat} {N n : Nat} {X : va_W} {u : ww_U} {x : Int32} {q : Nat} (hq1 : 1 ≤ q) (hq8 : q ≤ 8) (hxq : x = nI q) (hxc : x ≤ u 0 1) {P : Nat} (hP60 : P ≤ 60) (hpk : u 0 12 = nI P) (hof : mo_of u) (hop : okn (u 4 q) 60) (hse : mo_se u) (hru : okn (u 2 q) 1) (hNN : 29 ≤ N)  : ww_M l yX5_boot wsX5_boot ({ frames := 3, cells := 0, slots := 0, locals := 68 } : Room) D ca B N n X u [.ref (B 0), .int x] (some (.int (mo_boot P u q 9 (2 * q + mo_rd (mo_boot P u q) 2 q)))) (mo_boot P u q) := by
  refine ww_met (cc := cX5_boot) (maxL := 3) (ret := (some .int)) (by decide) rfl (Nat.le_of_ble_eq_true rfl) ?_
  intro p e s m args below meth c C hN ls hl
  have hl : lv_has ls 3 [(0, .ref (B 0)), (1, .int x)] := hl
  have hx := C.1.1
  have hb := C.1.2.1
  have hx1 : ¬ x < 1 := by rw [hxq]; exact (show ¬ nI q < nI 1 from nI_nlt (by omega) (by omega))
  refine lv_aload_n hx hb dX5_boot_0 rfl (lv_at hl 0 rfl) ?_
  refine lv_iload_n hx hb dX5_boot_1 rfl (lv_at hl 1 rfl) ?_
  refine rr_callV (As := [.int x]) C hN 0 (Nat.lt_of_lt_of_le (by decide) hNN) rfl rfl rfl (ct_X5_none l x hNN) gX5_boot_X5_none rfl rfl rfl 1 (by decide +kernel) ⟨Nat.le_of_ble_eq_true rfl, Nat.le_of_ble_eq_true rfl⟩ rfl hl.1 rfl (Nat.le_of_ble_eq_true rfl) ⟨Nat.zero_le _, Nat.zero_le _⟩ dX5_boot_2 (fun H locs hN => ?_)
  refine lv_topi (fun v1 ev1 => ?_)
  refine lv_if_eq (tgt := 10) hx hb dX5_boot_5 (by decide) (fun c_5 => ?_) (fun c_5 => absurd c_5 (fun h => h (by rw [ev1]; exact mo_none_0 hx1 hxc)))
  refine lv_aload_n hx hb dX5_boot_10 rfl (lv_at hl 0 rfl) ?_
  refine rr_get C hN 0 (Nat.lt_of_lt_of_le (by decide) hNN) rfl rfl kw_X5_boot_X5 6 (by decide) (List.mem_of_getElem? (i := 1) rfl) (v := .ref (B 5)) rfl dX5_boot_11 ?_
  refine lv_iload_n hx hb dX5_boot_14 rfl (lv_at hl 1 rfl) ?_
  refine rr_zald C hN 5 (Nat.lt_of_lt_of_le (by decide) hNN) rfl (by decide) q (by omega) hxq dX5_boot_15 ?_
  refine lv_istore_n (lv' := [(2, .int ((mo_z u) 5 q)), (0, .ref (B 0)), (1, .int x)]) hx hb dX5_boot_16 rfl hl (by decide) rfl (fun ls hl => ?_)
  refine lv_aload_n hx hb dX5_boot_17 rfl (lv_at hl 1 rfl) ?_
  refine rr_get C hN 0 (Nat.lt_of_lt_of_le (by decide) hNN) rfl rfl kw_X5_boot_X5 6 (by decide) (List.mem_of_getElem? (i := 1) rfl) (v := .ref (B 5)) rfl dX5_boot_18 ?_
  refine lv_iload_n hx hb dX5_boot_21 rfl (lv_at hl 2 rfl) ?_
  refine lv_iconst (v := 0) hx hb dX5_boot_22 (by decide) ?_
  refine rr_zast C hN 5 (Nat.lt_of_lt_of_le (by decide) hNN) (fun _ => rfl) (by decide) q (by omega) hxq dX5_boot_23 (fun u2 eu2 H locs hN => ?_)
  refine lv_iload_n hx hb dX5_boot_24 rfl (lv_at hl 0 rfl) ?_
  refine lv_if_eq (tgt := 61) hx hb dX5_boot_25 (by decide) (fun c_25 => ?_) (fun c_25 => ?_)
  · have hE : mo_boot P u q = u2 := by unfold mo_boot mo_bt; rw [if_pos c_25]; rw [eu2]; rfl
    have hRF : okn (u2 2 q) 1 := by rw [eu2]; exact hru
    refine lv_aload_n hx hb dX5_boot_61 rfl (lv_at hl 1 rfl) ?_
    refine rr_get C hN 0 (Nat.lt_of_lt_of_le (by decide) hNN) rfl rfl kw_X5_boot_X5 10 (by decide) (List.mem_of_getElem? (i := 5) rfl) (v := .ref (B 9)) rfl dX5_boot_62 ?_
    refine lv_iconst (v := 2) hx hb dX5_boot_65 (by decide) ?_
    refine lv_iload_n hx hb dX5_boot_66 rfl (lv_at hl 2 rfl) ?_
    refine lv_imul hx hb dX5_boot_67 ?_
    refine lv_topi (fun v3 ev3 => ?_)
    refine lv_aload_n hx hb dX5_boot_68 rfl (lv_at hl 1 rfl) ?_
    refine rr_get C hN 0 (Nat.lt_of_lt_of_le (by decide) hNN) rfl rfl kw_X5_boot_X5 3 (by decide) (List.mem_of_getElem? (i := 6) rfl) (v := .ref (B 2)) rfl dX5_boot_69 ?_
    refine lv_iload_n hx hb dX5_boot_72 rfl (lv_at hl 2 rfl) ?_
    refine rr_iald C hN 2 (Nat.lt_of_lt_of_le (by decide) hNN) rfl (by decide) q (by omega) hxq dX5_boot_73 ?_
    refine lv_iadd hx hb dX5_boot_74 ?_
    refine lv_topi (fun v4 ev4 => ?_)
    refine rr_iald C hN 9 (Nat.lt_of_lt_of_le (by decide) hNN) rfl (by decide) (2 * q + mo_rd u2 2 q) (by have := hRF.2; change mo_rd u2 2 q ≤ 1 at this; omega) (by rw [ev4, ev3, hxq, show u2 2 q = nI (mo_rd u2 2 q) from hRF.1]; exact (congrArg (fun z : Int32 => z + nI (mo_rd u2 2 q)) (pk_mul 2 q)).trans (nI_add _ _)) dX5_boot_75 ?_
    exact rr_iret C hN dX5_boot_76 (by rw [hE]) hE
  · refine lv_aload_n hx hb dX5_boot_28 rfl (lv_at hl 1 rfl) ?_
    refine lv_iload_n hx hb dX5_boot_29 rfl (lv_at hl 2 rfl) ?_
    refine rr_callV (As := [.int x]) C hN 0 (Nat.lt_of_lt_of_le (by decide) hNN) rfl rfl rfl (ct_X5_stateOf l hq8 hxq hNN (by rw [eu2]; exact hop)) gX5_boot_X5_stateOf rfl rfl rfl 1 (by decide +kernel) ⟨Nat.le_of_ble_eq_true rfl, Nat.le_of_ble_eq_true rfl⟩ rfl hl.1 rfl (Nat.le_of_ble_eq_true rfl) ⟨Nat.zero_le _, Nat.zero_le _⟩ dX5_boot_30 (fun H locs hN => ?_)
    refine lv_topi (fun v5 ev5 => ?_)
    refine lv_iconst (v := 2) hx hb dX5_boot_33 (by decide) ?_
    refine lv_icmp_ne (tgt := 61) hx hb dX5_boot_34 (by decide) (fun c_34 => ?_) (fun c_34 => ?_)
    · have hS : ¬ mo_st (ww_up (mo_z u) 5 q 0) q = 2 := by have h9 := c_34; rw [ev5, eu2] at h9; exact h9
      have hE : mo_boot P u q = u2 := by unfold mo_boot mo_bt; rw [if_neg c_25, if_neg hS]; rw [eu2]; rfl
      have hRF : okn (u2 2 q) 1 := by rw [eu2]; exact hru
      refine lv_aload_n hx hb dX5_boot_61 rfl (lv_at hl 1 rfl) ?_
      refine rr_get C hN 0 (Nat.lt_of_lt_of_le (by decide) hNN) rfl rfl kw_X5_boot_X5 10 (by decide) (List.mem_of_getElem? (i := 5) rfl) (v := .ref (B 9)) rfl dX5_boot_62 ?_
      refine lv_iconst (v := 2) hx hb dX5_boot_65 (by decide) ?_
      refine lv_iload_n hx hb dX5_boot_66 rfl (lv_at hl 2 rfl) ?_
      refine lv_imul hx hb dX5_boot_67 ?_
      refine lv_topi (fun v6 ev6 => ?_)
      refine lv_aload_n hx hb dX5_boot_68 rfl (lv_at hl 1 rfl) ?_
      refine rr_get C hN 0 (Nat.lt_of_lt_of_le (by decide) hNN) rfl rfl kw_X5_boot_X5 3 (by decide) (List.mem_of_getElem? (i := 6) rfl) (v := .ref (B 2)) rfl dX5_boot_69 ?_
      refine lv_iload_n hx hb dX5_boot_72 rfl (lv_at hl 2 rfl) ?_
      refine rr_iald C hN 2 (Nat.lt_of_lt_of_le (by decide) hNN) rfl (by decide) q (by omega) hxq dX5_boot_73 ?_
      refine lv_iadd hx hb dX5_boot_74 ?_
      refine lv_topi (fun v7 ev7 => ?_)
      refine rr_iald C hN 9 (Nat.lt_of_lt_of_le (by decide) hNN) rfl (by decide) (2 * q + mo_rd u2 2 q) (by have := hRF.2; change mo_rd u2 2 q ≤ 1 at this; omega) (by rw [ev7, ev6, hxq, show u2 2 q = nI (mo_rd u2 2 q) from hRF.1]; exact (congrArg (fun z : Int32 => z + nI (mo_rd u2 2 q)) (pk_mul 2 q)).trans (nI_add _ _)) dX5_boot_75 ?_
      exact rr_iret C hN dX5_boot_76 (by rw [hE]) hE
    · have hS : mo_st (ww_up (mo_z u) 5 q 0) q = 2 := by have h9 := c_34; rw [ev5, eu2] at h9; exact h9
      refine lv_aload_n hx hb dX5_boot_37 rfl (lv_at hl 1 rfl) ?_
      refine rr_get C hN 0 (Nat.lt_of_lt_of_le (by decide) hNN) rfl rfl kw_X5_boot_X5 20 (by decide) (List.mem_of_getElem? (i := 2) rfl) (v := .ref (B 18)) rfl dX5_boot_38 ?_
      refine lv_aload_n hx hb dX5_boot_41 rfl (lv_at hl 1 rfl) ?_
      refine rr_get C hN 0 (Nat.lt_of_lt_of_le (by decide) hNN) rfl rfl kw_X5_boot_X5 19 (by decide) (List.mem_of_getElem? (i := 3) rfl) (v := .ref (B 17)) rfl dX5_boot_42 ?_
      refine lv_aload_n hx hb dX5_boot_45 rfl (lv_at hl 1 rfl) ?_
      refine rr_get C hN 0 (Nat.lt_of_lt_of_le (by decide) hNN) rfl rfl kw_X5_boot_X5 5 (by decide) (List.mem_of_getElem? (i := 4) rfl) (v := .ref (B 4)) rfl dX5_boot_46 ?_
      refine lv_iload_n hx hb dX5_boot_49 rfl (lv_at hl 2 rfl) ?_
      refine rr_iald C hN 4 (Nat.lt_of_lt_of_le (by decide) hNN) rfl (by decide) q (by omega) hxq dX5_boot_50 ?_
      refine rr_iald C hN 17 (Nat.lt_of_lt_of_le (by decide) hNN) rfl (by decide) (mo_rd (mo_z u) 4 q) (Nat.lt_succ_of_le hop.2) (by rw [eu2]; exact hop.1) dX5_boot_51 ?_
      refine rr_zald C hN 18 (Nat.lt_of_lt_of_le (by decide) hNN) rfl (by decide) (mo_rd (mo_z u) 17 (mo_rd (mo_z u) 4 q)) (Nat.lt_succ_of_le (hse _ hop.2).2) (by rw [eu2]; exact (hse _ hop.2).1) dX5_boot_52 ?_
      refine lv_if_eq (tgt := 61) hx hb dX5_boot_53 (by decide) (fun c_53 => ?_) (fun c_53 => ?_)
      · have hC : mo_z u 18 (mo_rd (mo_z u) 17 (mo_rd (mo_z u) 4 q)) = 0 := by have h9 := c_53; rw [eu2] at h9; exact h9
        have hE : mo_boot P u q = u2 := by unfold mo_boot mo_bt; rw [if_neg c_25, if_pos hS, if_pos hC]; rw [eu2]; rfl
        have hRF : okn (u2 2 q) 1 := by rw [eu2]; exact hru
        refine lv_aload_n hx hb dX5_boot_61 rfl (lv_at hl 1 rfl) ?_
        refine rr_get C hN 0 (Nat.lt_of_lt_of_le (by decide) hNN) rfl rfl kw_X5_boot_X5 10 (by decide) (List.mem_of_getElem? (i := 5) rfl) (v := .ref (B 9)) rfl dX5_boot_62 ?_
        refine lv_iconst (v := 2) hx hb dX5_boot_65 (by decide) ?_
        refine lv_iload_n hx hb dX5_boot_66 rfl (lv_at hl 2 rfl) ?_
        refine lv_imul hx hb dX5_boot_67 ?_
        refine lv_topi (fun v8 ev8 => ?_)
        refine lv_aload_n hx hb dX5_boot_68 rfl (lv_at hl 1 rfl) ?_
        refine rr_get C hN 0 (Nat.lt_of_lt_of_le (by decide) hNN) rfl rfl kw_X5_boot_X5 3 (by decide) (List.mem_of_getElem? (i := 6) rfl) (v := .ref (B 2)) rfl dX5_boot_69 ?_
        refine lv_iload_n hx hb dX5_boot_72 rfl (lv_at hl 2 rfl) ?_
        refine rr_iald C hN 2 (Nat.lt_of_lt_of_le (by decide) hNN) rfl (by decide) q (by omega) hxq dX5_boot_73 ?_
        refine lv_iadd hx hb dX5_boot_74 ?_
        refine lv_topi (fun v9 ev9 => ?_)
        refine rr_iald C hN 9 (Nat.lt_of_lt_of_le (by decide) hNN) rfl (by decide) (2 * q + mo_rd u2 2 q) (by have := hRF.2; change mo_rd u2 2 q ≤ 1 at this; omega) (by rw [ev9, ev8, hxq, show u2 2 q = nI (mo_rd u2 2 q) from hRF.1]; exact (congrArg (fun z : Int32 => z + nI (mo_rd u2 2 q)) (pk_mul 2 q)).trans (nI_add _ _)) dX5_boot_75 ?_
        exact rr_iret C hN dX5_boot_76 (by rw [hE]) hE
      · have hC : ¬ mo_z u 18 (mo_rd (mo_z u) 17 (mo_rd (mo_z u) 4 q)) = 0 := by have h9 := c_53; rw [eu2] at h9; exact h9
        refine lv_aload_n hx hb dX5_boot_56 rfl (lv_at hl 1 rfl) ?_
        refine lv_iload_n hx hb dX5_boot_57 rfl (lv_at hl 2 rfl) ?_
        refine rr_callV0 (As := [.int x]) C hN 0 (Nat.lt_of_lt_of_le (by decide) hNN) rfl rfl rfl (ct_X5_change l hq8 hxq hP60 (by rw [eu2]; exact hpk) (by rw [eu2]; exact hof) (by rw [eu2]; exact hop) (by rw [eu2]; exact hru) hNN) gX5_boot_X5_change rfl rfl rfl 1 (by decide +kernel) ⟨Nat.le_of_ble_eq_true rfl, Nat.le_of_ble_eq_true rfl⟩ rfl hl.1 rfl (Nat.le_of_ble_eq_true rfl) ⟨Nat.zero_le _, Nat.zero_le _⟩ dX5_boot_58 (fun H locs hN => ?_)
        obtain ⟨u10, eu10⟩ : ∃ y : ww_U, y = mo_change P u2 q (mo_rd u2 4 q) := ⟨_, rfl⟩
        rw [← eu10] at hN
        have hE : mo_boot P u q = u10 := by unfold mo_boot mo_bt; rw [if_neg c_25, if_pos hS, if_neg hC]; rw [eu10, eu2]; rfl
        have hRF : okn (u10 2 q) 1 := by rw [eu10]; rw [mo_change_2, eu2]; exact (okn_flip hru).1
        refine lv_aload_n hx hb dX5_boot_61 rfl (lv_at hl 1 rfl) ?_
        refine rr_get C hN 0 (Nat.lt_of_lt_of_le (by decide) hNN) rfl rfl kw_X5_boot_X5 10 (by decide) (List.mem_of_getElem? (i := 5) rfl) (v := .ref (B 9)) rfl dX5_boot_62 ?_
        refine lv_iconst (v := 2) hx hb dX5_boot_65 (by decide) ?_
        refine lv_iload_n hx hb dX5_boot_66 rfl (lv_at hl 2 rfl) ?_
        refine lv_imul hx hb dX5_boot_67 ?_
        refine lv_topi (fun v11 ev11 => ?_)
        refine lv_aload_n hx hb dX5_boot_68 rfl (lv_at hl 1 rfl) ?_
        refine rr_get C hN 0 (Nat.lt_of_lt_of_le (by decide) hNN) rfl rfl kw_X5_boot_X5 3 (by decide) (List.mem_of_getElem? (i := 6) rfl) (v := .ref (B 2)) rfl dX5_boot_69 ?_
        refine lv_iload_n hx hb dX5_boot_72 rfl (lv_at hl 2 rfl) ?_
        refine rr_iald C hN 2 (Nat.lt_of_lt_of_le (by decide) hNN) rfl (by decide) q (by omega) hxq dX5_boot_73 ?_
        refine lv_iadd hx hb dX5_boot_74 ?_
        refine lv_topi (fun v12 ev12 => ?_)
        refine rr_iald C hN 9 (Nat.lt_of_lt_of_le (by decide) hNN) rfl (by decide) (2 * q + mo_rd u10 2 q) (by have := hRF.2; change mo_rd u10 2 q ≤ 1 at this; omega) (by rw [ev12, ev11, hxq, show u10 2 q = nI (mo_rd u10 2 q) from hRF.1]; exact (congrArg (fun z : Int32 => z + nI (mo_rd u10 2 q)) (pk_mul 2 q)).trans (nI_add _ _)) dX5_boot_75 ?_
        exact rr_iret C hN dX5_boot_76 (by rw [hE]) hE
set_option maxHeartbeats 4000000 in
set_option maxRecDepth 100000 in
theorem ct_X5_bank0 (l : Launch) {D : va_G} {ca : Nat → ClassId} {B : Nat → Nat} {N n : Nat} {X : va_W} {u : ww_U} {x : Int32} (h : x < 1 ∨ u 0 1 < x) (y : Int32) (i : Int64) (hNN : 29 ≤ N)  : ww_M l yX5_bank wsX5_bank ({ frames := 1, cells := 0, slots := 0, locals := 21 } : Room) D ca B N n X u [.ref (B 0), .int x, .int y, .long i] (some (.int 0)) (mo_z u) := by
  refine ww_met (cc := cX5_bank) (maxL := 5) (ret := (some .byte)) (by decide) rfl (Nat.le_of_ble_eq_true rfl) ?_
  intro p e s m args below meth c C hN ls hl
  have hl : lv_has ls 5 [(0, .ref (B 0)), (1, .int x), (2, .int y), (3, .long i)] := hl
  have hx := C.1.1
  have hb := C.1.2.1
  refine lv_aload_n hx hb dX5_bank_0 rfl (lv_at hl 0 rfl) ?_
  refine lv_iload_n hx hb dX5_bank_1 rfl (lv_at hl 1 rfl) ?_
  refine rr_callV (As := [.int x]) C hN 0 (Nat.lt_of_lt_of_le (by decide) hNN) rfl rfl rfl (ct_X5_none l x hNN) gX5_bank_X5_none rfl rfl rfl 1 (by decide +kernel) ⟨Nat.le_of_ble_eq_true rfl, Nat.le_of_ble_eq_true rfl⟩ rfl hl.1 rfl (Nat.le_of_ble_eq_true rfl) ⟨Nat.zero_le _, Nat.zero_le _⟩ dX5_bank_2 (fun H locs hN => ?_)
  refine lv_topi (fun v1 ev1 => ?_)
  refine lv_if_eq (tgt := 10) hx hb dX5_bank_5 (by decide) (fun c_5 => absurd c_5 (by rw [ev1, mo_none_1 h]; decide)) (fun c_5 => ?_)
  refine lv_iconst (v := 0) hx hb dX5_bank_8 (by decide) ?_
  exact rr_zret C hN dX5_bank_9 (by first | rfl | decide) rfl rfl
set_option maxRecDepth 20000 in
theorem kw_X5_bank_X5 : ww_K wsX5_bank RX5 TX5 36 tyX5 := ⟨by decide +kernel, tyX5_ok, nmX5⟩
set_option maxHeartbeats 4000000 in
set_option maxRecDepth 100000 in
theorem ct_X5_bank1 (l : Launch) {D : va_G} {ca : Nat → ClassId} {B : Nat → Nat} {N n : Nat} {X : va_W} {u : ww_U} {x : Int32} {q : Nat} (hq1 : 1 ≤ q) (hq8 : q ≤ 8) (hxq : x = nI q) (hxc : x ≤ u 0 1) {y : Int32} {i : Int64} (h : y < 0 ∨ 1 < y ∨ i < 0 ∨ 255 < i) (hNN : 29 ≤ N)  : ww_M l yX5_bank wsX5_bank ({ frames := 1, cells := 0, slots := 0, locals := 21 } : Room) D ca B N n X u [.ref (B 0), .int x, .int y, .long i] (some (.int 0)) (ww_up (mo_z u) 0 0 1) := by
  refine ww_met (cc := cX5_bank) (maxL := 5) (ret := (some .byte)) (by decide) rfl (Nat.le_of_ble_eq_true rfl) ?_
  intro p e s m args below meth c C hN ls hl
  have hl : lv_has ls 5 [(0, .ref (B 0)), (1, .int x), (2, .int y), (3, .long i)] := hl
  have hx := C.1.1
  have hb := C.1.2.1
  have hx1 : ¬ x < 1 := by rw [hxq]; exact (show ¬ nI q < nI 1 from nI_nlt (by omega) (by omega))
  refine lv_aload_n hx hb dX5_bank_0 rfl (lv_at hl 0 rfl) ?_
  refine lv_iload_n hx hb dX5_bank_1 rfl (lv_at hl 1 rfl) ?_
  refine rr_callV (As := [.int x]) C hN 0 (Nat.lt_of_lt_of_le (by decide) hNN) rfl rfl rfl (ct_X5_none l x hNN) gX5_bank_X5_none rfl rfl rfl 1 (by decide +kernel) ⟨Nat.le_of_ble_eq_true rfl, Nat.le_of_ble_eq_true rfl⟩ rfl hl.1 rfl (Nat.le_of_ble_eq_true rfl) ⟨Nat.zero_le _, Nat.zero_le _⟩ dX5_bank_2 (fun H locs hN => ?_)
  refine lv_topi (fun v1 ev1 => ?_)
  refine lv_if_eq (tgt := 10) hx hb dX5_bank_5 (by decide) (fun c_5 => ?_) (fun c_5 => absurd c_5 (fun h => h (by rw [ev1]; exact mo_none_0 hx1 hxc)))
  refine lv_aload_n hx hb dX5_bank_10 rfl (lv_at hl 0 rfl) ?_
  refine lv_iload_n hx hb dX5_bank_11 rfl (lv_at hl 2 rfl) ?_
  refine lv_if_lt (tgt := 34) hx hb dX5_bank_12 (by decide) (fun c_12 => ?_) (fun c_12 => ?_)
  · refine lv_iconst (v := 1) hx hb dX5_bank_34 (by decide) ?_
    refine lv_goto (tgt := 39) hx hb dX5_bank_35 (by decide) ?_
    refine rr_put C hN 0 (Nat.lt_of_lt_of_le (by decide) hNN) rfl rfl kw_X5_bank_X5 0 (by decide) (List.mem_of_getElem? (i := 2) rfl) rfl (x := 1) rfl rfl (Nat.le_of_ble_eq_true rfl) ((Eq.refl _).trans rfl) dX5_bank_39 (fun u2 eu2 H locs hN => ?_)
    refine lv_aload_n hx hb dX5_bank_42 rfl (lv_at hl 0 rfl) ?_
    refine rr_get C hN 0 (Nat.lt_of_lt_of_le (by decide) hNN) rfl rfl kw_X5_bank_X5 0 (by decide) (List.mem_of_getElem? (i := 2) rfl) (v := .int (u2 0 0)) rfl dX5_bank_43 ?_
    refine lv_if_le (tgt := 53) hx hb dX5_bank_46 (by decide) (fun c_46 => absurd c_46 (by rw [eu2, ww_up_self]; decide)) (fun c_46 => ?_)
    refine lv_iconst (v := 0) hx hb dX5_bank_49 (by decide) ?_
    refine lv_goto (tgt := 73) hx hb dX5_bank_50 (by decide) ?_
    exact rr_zret C hN dX5_bank_73 (by first | rfl | decide) rfl (by subst_vars; rfl)
  · refine lv_iload_n hx hb dX5_bank_15 rfl (lv_at hl 2 rfl) ?_
    refine lv_iconst (v := 1) hx hb dX5_bank_16 (by decide) ?_
    refine lv_icmp_gt (tgt := 34) hx hb dX5_bank_17 (by decide) (fun c_17 => ?_) (fun c_17 => ?_)
    · refine lv_iconst (v := 1) hx hb dX5_bank_34 (by decide) ?_
      refine lv_goto (tgt := 39) hx hb dX5_bank_35 (by decide) ?_
      refine rr_put C hN 0 (Nat.lt_of_lt_of_le (by decide) hNN) rfl rfl kw_X5_bank_X5 0 (by decide) (List.mem_of_getElem? (i := 2) rfl) rfl (x := 1) rfl rfl (Nat.le_of_ble_eq_true rfl) ((Eq.refl _).trans rfl) dX5_bank_39 (fun u3 eu3 H locs hN => ?_)
      refine lv_aload_n hx hb dX5_bank_42 rfl (lv_at hl 0 rfl) ?_
      refine rr_get C hN 0 (Nat.lt_of_lt_of_le (by decide) hNN) rfl rfl kw_X5_bank_X5 0 (by decide) (List.mem_of_getElem? (i := 2) rfl) (v := .int (u3 0 0)) rfl dX5_bank_43 ?_
      refine lv_if_le (tgt := 53) hx hb dX5_bank_46 (by decide) (fun c_46 => absurd c_46 (by rw [eu3, ww_up_self]; decide)) (fun c_46 => ?_)
      refine lv_iconst (v := 0) hx hb dX5_bank_49 (by decide) ?_
      refine lv_goto (tgt := 73) hx hb dX5_bank_50 (by decide) ?_
      exact rr_zret C hN dX5_bank_73 (by first | rfl | decide) rfl (by subst_vars; rfl)
    · refine lv_lload_n hx hb dX5_bank_20 rfl (lv_at hl 3 rfl) ?_
      refine lv_lconst (v := 0) hx hb dX5_bank_21 (by decide) ?_
      refine W.lcmp hx hb dX5_bank_22 ?_
      refine lv_topi (fun v4 ev4 => ?_)
      refine lv_if_lt (tgt := 34) hx hb dX5_bank_23 (by decide) (fun c_23 => ?_) (fun c_23 => ?_)
      · refine lv_iconst (v := 1) hx hb dX5_bank_34 (by decide) ?_
        refine lv_goto (tgt := 39) hx hb dX5_bank_35 (by decide) ?_
        refine rr_put C hN 0 (Nat.lt_of_lt_of_le (by decide) hNN) rfl rfl kw_X5_bank_X5 0 (by decide) (List.mem_of_getElem? (i := 2) rfl) rfl (x := 1) rfl rfl (Nat.le_of_ble_eq_true rfl) ((Eq.refl _).trans rfl) dX5_bank_39 (fun u5 eu5 H locs hN => ?_)
        refine lv_aload_n hx hb dX5_bank_42 rfl (lv_at hl 0 rfl) ?_
        refine rr_get C hN 0 (Nat.lt_of_lt_of_le (by decide) hNN) rfl rfl kw_X5_bank_X5 0 (by decide) (List.mem_of_getElem? (i := 2) rfl) (v := .int (u5 0 0)) rfl dX5_bank_43 ?_
        refine lv_if_le (tgt := 53) hx hb dX5_bank_46 (by decide) (fun c_46 => absurd c_46 (by rw [eu5, ww_up_self]; decide)) (fun c_46 => ?_)
        refine lv_iconst (v := 0) hx hb dX5_bank_49 (by decide) ?_
        refine lv_goto (tgt := 73) hx hb dX5_bank_50 (by decide) ?_
        exact rr_zret C hN dX5_bank_73 (by first | rfl | decide) rfl (by subst_vars; rfl)
      · refine lv_lload_n hx hb dX5_bank_26 rfl (lv_at hl 3 rfl) ?_
        refine lv_ldc2 (v := 255) hx hb C.1.2.2.2.1 (C.1.2.2.2.2 _ (List.mem_of_getElem? (i := 1) rfl)) dX5_bank_27 ?_
        refine W.lcmp hx hb dX5_bank_30 ?_
        refine lv_topi (fun v6 ev6 => ?_)
        refine lv_if_le (tgt := 38) hx hb dX5_bank_31 (by decide) (fun c_31 => absurd c_31 (by rw [ev6, lg_cmp_le]; rw [ev4, lg_cmp_lt] at c_23; rcases h with h | h | h | h; exact absurd h c_12; exact absurd h c_17; exact absurd h c_23; exact Int64.not_le.mpr h)) (fun c_31 => ?_)
        refine lv_iconst (v := 1) hx hb dX5_bank_34 (by decide) ?_
        refine lv_goto (tgt := 39) hx hb dX5_bank_35 (by decide) ?_
        refine rr_put C hN 0 (Nat.lt_of_lt_of_le (by decide) hNN) rfl rfl kw_X5_bank_X5 0 (by decide) (List.mem_of_getElem? (i := 2) rfl) rfl (x := 1) rfl rfl (Nat.le_of_ble_eq_true rfl) ((Eq.refl _).trans rfl) dX5_bank_39 (fun u7 eu7 H locs hN => ?_)
        refine lv_aload_n hx hb dX5_bank_42 rfl (lv_at hl 0 rfl) ?_
        refine rr_get C hN 0 (Nat.lt_of_lt_of_le (by decide) hNN) rfl rfl kw_X5_bank_X5 0 (by decide) (List.mem_of_getElem? (i := 2) rfl) (v := .int (u7 0 0)) rfl dX5_bank_43 ?_
        refine lv_if_le (tgt := 53) hx hb dX5_bank_46 (by decide) (fun c_46 => absurd c_46 (by rw [eu7, ww_up_self]; decide)) (fun c_46 => ?_)
        refine lv_iconst (v := 0) hx hb dX5_bank_49 (by decide) ?_
        refine lv_goto (tgt := 73) hx hb dX5_bank_50 (by decide) ?_
        exact rr_zret C hN dX5_bank_73 (by first | rfl | decide) rfl (by subst_vars; rfl)
set_option maxHeartbeats 4000000 in
set_option maxRecDepth 100000 in
theorem ct_X5_bank2 (l : Launch) {D : va_G} {ca : Nat → ClassId} {B : Nat → Nat} {N n : Nat} {X : va_W} {u : ww_U} {x : Int32} {q : Nat} (hq1 : 1 ≤ q) (hq8 : q ≤ 8) (hxq : x = nI q) (hxc : x ≤ u 0 1) {y : Int32} {i : Int64} {b0 i0 : Nat} (hb2 : b0 < 2) (hyb : y = nI b0) (hi2 : i0 < 256) (hii : i = lN i0) (hNN : 29 ≤ N)  : ww_M l yX5_bank wsX5_bank ({ frames := 1, cells := 0, slots := 0, locals := 21 } : Room) D ca B N n X u [.ref (B 0), .int x, .int y, .long i] (some (.int (u 10 (512 * q + 256 * b0 + i0)).toInt8.toInt32)) (ww_up (mo_z u) 0 0 0) := by
  refine ww_met (cc := cX5_bank) (maxL := 5) (ret := (some .byte)) (by decide) rfl (Nat.le_of_ble_eq_true rfl) ?_
  intro p e s m args below meth c C hN ls hl
  have hl : lv_has ls 5 [(0, .ref (B 0)), (1, .int x), (2, .int y), (3, .long i)] := hl
  have hx := C.1.1
  have hb := C.1.2.1
  have hx1 : ¬ x < 1 := by rw [hxq]; exact (show ¬ nI q < nI 1 from nI_nlt (by omega) (by omega))
  refine lv_aload_n hx hb dX5_bank_0 rfl (lv_at hl 0 rfl) ?_
  refine lv_iload_n hx hb dX5_bank_1 rfl (lv_at hl 1 rfl) ?_
  refine rr_callV (As := [.int x]) C hN 0 (Nat.lt_of_lt_of_le (by decide) hNN) rfl rfl rfl (ct_X5_none l x hNN) gX5_bank_X5_none rfl rfl rfl 1 (by decide +kernel) ⟨Nat.le_of_ble_eq_true rfl, Nat.le_of_ble_eq_true rfl⟩ rfl hl.1 rfl (Nat.le_of_ble_eq_true rfl) ⟨Nat.zero_le _, Nat.zero_le _⟩ dX5_bank_2 (fun H locs hN => ?_)
  refine lv_topi (fun v1 ev1 => ?_)
  refine lv_if_eq (tgt := 10) hx hb dX5_bank_5 (by decide) (fun c_5 => ?_) (fun c_5 => absurd c_5 (fun h => h (by rw [ev1]; exact mo_none_0 hx1 hxc)))
  refine lv_aload_n hx hb dX5_bank_10 rfl (lv_at hl 0 rfl) ?_
  refine lv_iload_n hx hb dX5_bank_11 rfl (lv_at hl 2 rfl) ?_
  refine lv_if_lt (tgt := 34) hx hb dX5_bank_12 (by decide) (fun c_12 => absurd c_12 (by rw [hyb]; exact nI_pos (by omega))) (fun c_12 => ?_)
  refine lv_iload_n hx hb dX5_bank_15 rfl (lv_at hl 2 rfl) ?_
  refine lv_iconst (v := 1) hx hb dX5_bank_16 (by decide) ?_
  refine lv_icmp_gt (tgt := 34) hx hb dX5_bank_17 (by decide) (fun c_17 => absurd c_17 (by rw [hyb]; exact (show ¬ nI 1 < nI b0 from nI_nlt (by omega) (by omega)))) (fun c_17 => ?_)
  refine lv_lload_n hx hb dX5_bank_20 rfl (lv_at hl 3 rfl) ?_
  refine lv_lconst (v := 0) hx hb dX5_bank_21 (by decide) ?_
  refine W.lcmp hx hb dX5_bank_22 ?_
  refine lv_topi (fun v2 ev2 => ?_)
  refine lv_if_lt (tgt := 34) hx hb dX5_bank_23 (by decide) (fun c_23 => absurd c_23 (by rw [ev2, lg_cmp_lt, hii]; exact (show ¬ lN i0 < lN 0 from fun z => absurd ((lN_lt (by omega) (by omega)).mp z) (by omega)))) (fun c_23 => ?_)
  refine lv_lload_n hx hb dX5_bank_26 rfl (lv_at hl 3 rfl) ?_
  refine lv_ldc2 (v := 255) hx hb C.1.2.2.2.1 (C.1.2.2.2.2 _ (List.mem_of_getElem? (i := 1) rfl)) dX5_bank_27 ?_
  refine W.lcmp hx hb dX5_bank_30 ?_
  refine lv_topi (fun v3 ev3 => ?_)
  refine lv_if_le (tgt := 38) hx hb dX5_bank_31 (by decide) (fun c_31 => ?_) (fun c_31 => absurd c_31 (fun h => h (by rw [ev3, lg_cmp_le, hii]; exact (lN_le (a := i0) (b := 255) (by omega) (by omega)).mpr (by omega))))
  refine lv_iconst (v := 0) hx hb dX5_bank_38 (by decide) ?_
  refine rr_put C hN 0 (Nat.lt_of_lt_of_le (by decide) hNN) rfl rfl kw_X5_bank_X5 0 (by decide) (List.mem_of_getElem? (i := 2) rfl) rfl (x := 0) rfl rfl (Nat.le_of_ble_eq_true rfl) ((Eq.refl _).trans rfl) dX5_bank_39 (fun u4 eu4 H locs hN => ?_)
  refine lv_aload_n hx hb dX5_bank_42 rfl (lv_at hl 0 rfl) ?_
  refine rr_get C hN 0 (Nat.lt_of_lt_of_le (by decide) hNN) rfl rfl kw_X5_bank_X5 0 (by decide) (List.mem_of_getElem? (i := 2) rfl) (v := .int (u4 0 0)) rfl dX5_bank_43 ?_
  refine lv_if_le (tgt := 53) hx hb dX5_bank_46 (by decide) (fun c_46 => ?_) (fun c_46 => absurd c_46 (fun h => h (by rw [eu4, ww_up_self]; decide)))
  refine lv_aload_n hx hb dX5_bank_53 rfl (lv_at hl 0 rfl) ?_
  refine rr_get C hN 0 (Nat.lt_of_lt_of_le (by decide) hNN) rfl rfl kw_X5_bank_X5 11 (by decide) (List.mem_of_getElem? (i := 3) rfl) (v := .ref (B 10)) rfl dX5_bank_54 ?_
  refine lv_sipush (v := 512) hx hb dX5_bank_57 (by decide) ?_
  refine lv_iload_n hx hb dX5_bank_60 rfl (lv_at hl 1 rfl) ?_
  refine lv_imul hx hb dX5_bank_61 ?_
  refine lv_topi (fun v5 ev5 => ?_)
  refine lv_sipush (v := 256) hx hb dX5_bank_62 (by decide) ?_
  refine lv_iload_n hx hb dX5_bank_65 rfl (lv_at hl 2 rfl) ?_
  refine lv_imul hx hb dX5_bank_66 ?_
  refine lv_topi (fun v6 ev6 => ?_)
  refine lv_iadd hx hb dX5_bank_67 ?_
  refine lv_topi (fun v7 ev7 => ?_)
  refine lv_lload_n hx hb dX5_bank_68 rfl (lv_at hl 3 rfl) ?_
  refine lv_l2i hx hb dX5_bank_69 rfl ?_
  refine lv_topi (fun v8 ev8 => ?_)
  refine lv_iadd hx hb dX5_bank_70 ?_
  refine lv_topi (fun v9 ev9 => ?_)
  refine rr_iald C hN 10 (Nat.lt_of_lt_of_le (by decide) hNN) rfl (by decide) (512 * q + 256 * b0 + i0) (by omega) (by rw [ev9, ev7, ev5, ev6, ev8, hxq, hyb, hii, lN_i]; exact (congrArg (fun z : Int32 => z + 256 * nI b0 + nI i0) (pk_mul 512 q)).trans ((congrArg (fun z : Int32 => nI (512 * q) + z + nI i0) (pk_mul 256 b0)).trans ((congrArg (fun z : Int32 => z + nI i0) (nI_add _ _)).trans (nI_add _ _)))) dX5_bank_71 ?_
  refine lv_i2b hx hb dX5_bank_72 rfl ?_
  refine lv_topi (fun v10 ev10 => ?_)
  exact rr_zret C hN dX5_bank_73 (by rw [ev10]; exact pk_nb _) (by subst_vars; rfl) (by subst_vars; rfl)
