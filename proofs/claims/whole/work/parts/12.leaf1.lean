def cu_isp (u : ww_U) (x : Int32) : Int32 := if x < 1 then 0 else if u 29 2 < x then 0 else 1
def cu_hold (u : ww_U) : Int32 := if u 29 5 = 0 then 0 else if u 29 6 = 0 then 0 else 1
def cu_away (u : ww_U) (i : Nat) : Int32 := if u (kC i) 5 = 0 then (if u (kC i) 6 = 0 then 0 else 1) else 1
def cu_ols (u : ww_U) (i : Nat) : Int32 := if u (kC i) 9 = 0 then 0 else 1
def cu_isOf (u : ww_U) (i : Nat) (x : Int32) : Int32 := if u (kP i) 4 = 0 then 0 else if u (kP i) 6 = x then 1 else 0
def cu_lose (u : ww_U) (i : Nat) : ww_U := if u (kP i) 4 = 1 then (if u (kP i) 5 ≤ 0 then u else ww_up u (kP i) 5 (u (kP i) 5 - 1)) else u
def cu_b (u : ww_U) (i : Nat) : Nat := (u (kC i) 3).toNatClampNeg
def cu_other (u : ww_U) (i : Nat) : ww_U := ww_up (ww_up u (kC i) 3 (1 - u (kC i) 3)) (kC i) 4 ((ww_up u (kC i) 3 (1 - u (kC i) 3)) (kB i (1 - cu_b u i)) 1)
theorem ww_up_ne {u : ww_U} {k j a : Nat} {x : Int32} (h : a ≠ k) : ww_up u k j x a = u a := by unfold ww_up; rw [if_neg h]
theorem ww_up_at {u : ww_U} {k j b : Nat} {x : Int32} : ww_up u k j x k b = if b = j then x else u k b := by unfold ww_up upd; rw [if_pos rfl]
theorem ww_up_self {u : ww_U} {k j : Nat} {x : Int32} : ww_up u k j x k j = x := by rw [ww_up_at, if_pos rfl]
theorem ww_up_nj {u : ww_U} {k j b : Nat} {x : Int32} (h : b ≠ j) : ww_up u k j x k b = u k b := by rw [ww_up_at, if_neg h]
theorem nI_sub1 {b : Nat} (hb : b < 2) : (1 : Int32) - nI b = nI (1 - b) := by
  rcases (show b = 0 ∨ b = 1 by omega) with rfl | rfl <;> rfl
theorem cu_lose_ne {u : ww_U} {i k : Nat} (h : k ≠ kP i) : cu_lose u i k = u k := by
  unfold cu_lose
  (repeat' split) <;> first | rfl | exact ww_up_ne h
set_option maxRecDepth 20000 in
theorem kw_X4_isPackage_X4 : ww_K wsX4_isPackage RX4 TX4 8 tyX4 := ⟨by decide +kernel, tyX4_ok, nmX4⟩
set_option maxHeartbeats 4000000 in
set_option maxRecDepth 100000 in
theorem ct_X4_isPackage (l : Launch) {D : va_G} {ca : Nat → ClassId} {B : Nat → Nat} {N n : Nat} {X : va_W} {u : ww_U} (x : Int32) (hNn : 36 + 8 * n ≤ N)  : ww_M l yX4_isPackage wsX4_isPackage ({ frames := 0, cells := 0, slots := 0, locals := 0 } : Room) D ca B N n X u [.ref (B 29), .int x] (some (.int (cu_isp u x))) u := by
  refine ww_met (cc := cX4_isPackage) (maxL := 2) (ret := (some .boolean)) (by decide) rfl (Nat.le_of_ble_eq_true rfl) ?_
  intro p e s m args below meth c C hN ls hl
  have hl : lv_has ls 2 [(0, .ref (B 29)), (1, .int x)] := hl
  have hx := C.1.1
  have hb := C.1.2.1
  have hNB : 36 ≤ N := by omega
  have hNN : 29 ≤ N := by omega
  refine lv_iload_n hx hb dX4_isPackage_0 rfl (lv_at hl 1 rfl) ?_
  refine lv_iconst (v := 1) hx hb dX4_isPackage_1 (by decide) ?_
  refine lv_icmp_lt (tgt := 17) hx hb dX4_isPackage_2 (by decide) (fun c_2 => ?_) (fun c_2 => ?_)
  · refine lv_iconst (v := 0) hx hb dX4_isPackage_17 (by decide) ?_
    exact rr_zret C hN dX4_isPackage_18 (by first | rfl | decide) (by first | rfl | (simp only [cu_isp]; first | done | ((repeat' split) <;> first | rfl | contradiction | (subst_vars; first | rfl | contradiction) | simp_all))) rfl
  · refine lv_iload_n hx hb dX4_isPackage_5 rfl (lv_at hl 1 rfl) ?_
    refine lv_aload_n hx hb dX4_isPackage_6 rfl (lv_at hl 0 rfl) ?_
    refine rr_get C hN 29 (Nat.lt_of_lt_of_le (by decide) hNB) rfl rfl kw_X4_isPackage_X4 2 (by decide) (List.mem_of_getElem? (i := 1) rfl) (v := .int (u 29 2)) rfl dX4_isPackage_7 ?_
    refine lv_icmp_gt (tgt := 17) hx hb dX4_isPackage_10 (by decide) (fun c_10 => ?_) (fun c_10 => ?_)
    · refine lv_iconst (v := 0) hx hb dX4_isPackage_17 (by decide) ?_
      exact rr_zret C hN dX4_isPackage_18 (by first | rfl | decide) (by first | rfl | (simp only [cu_isp]; first | done | ((repeat' split) <;> first | rfl | contradiction | (subst_vars; first | rfl | contradiction) | simp_all))) rfl
    · refine lv_iconst (v := 1) hx hb dX4_isPackage_13 (by decide) ?_
      refine lv_goto (tgt := 18) hx hb dX4_isPackage_14 (by decide) ?_
      exact rr_zret C hN dX4_isPackage_18 (by first | rfl | decide) (by first | rfl | (simp only [cu_isp]; first | done | ((repeat' split) <;> first | rfl | contradiction | (subst_vars; first | rfl | contradiction) | simp_all))) rfl
set_option maxRecDepth 20000 in
theorem kw_X4_bothHold_X4 : ww_K wsX4_bothHold RX4 TX4 8 tyX4 := ⟨by decide +kernel, tyX4_ok, nmX4⟩
set_option maxHeartbeats 4000000 in
set_option maxRecDepth 100000 in
theorem ct_X4_bothHold (l : Launch) {D : va_G} {ca : Nat → ClassId} {B : Nat → Nat} {N n : Nat} {X : va_W} {u : ww_U}  (hNn : 36 + 8 * n ≤ N)  : ww_M l yX4_bothHold wsX4_bothHold ({ frames := 0, cells := 0, slots := 0, locals := 0 } : Room) D ca B N n X u [.ref (B 29)] (some (.int (cu_hold u))) u := by
  refine ww_met (cc := cX4_bothHold) (maxL := 1) (ret := (some .boolean)) (by decide) rfl (Nat.le_of_ble_eq_true rfl) ?_
  intro p e s m args below meth c C hN ls hl
  have hl : lv_has ls 1 [(0, .ref (B 29))] := hl
  have hx := C.1.1
  have hb := C.1.2.1
  have hNB : 36 ≤ N := by omega
  have hNN : 29 ≤ N := by omega
  refine lv_aload_n hx hb dX4_bothHold_0 rfl (lv_at hl 0 rfl) ?_
  refine rr_get C hN 29 (Nat.lt_of_lt_of_le (by decide) hNB) rfl rfl kw_X4_bothHold_X4 5 (by decide) (List.mem_of_getElem? (i := 1) rfl) (v := .int (u 29 5)) rfl dX4_bothHold_1 ?_
  refine lv_if_eq (tgt := 18) hx hb dX4_bothHold_4 (by decide) (fun c_4 => ?_) (fun c_4 => ?_)
  · refine lv_iconst (v := 0) hx hb dX4_bothHold_18 (by decide) ?_
    exact rr_zret C hN dX4_bothHold_19 (by first | rfl | decide) (by first | rfl | (simp only [cu_hold]; first | done | ((repeat' split) <;> first | rfl | contradiction | (subst_vars; first | rfl | contradiction) | simp_all))) rfl
  · refine lv_aload_n hx hb dX4_bothHold_7 rfl (lv_at hl 0 rfl) ?_
    refine rr_get C hN 29 (Nat.lt_of_lt_of_le (by decide) hNB) rfl rfl kw_X4_bothHold_X4 6 (by decide) (List.mem_of_getElem? (i := 2) rfl) (v := .int (u 29 6)) rfl dX4_bothHold_8 ?_
    refine lv_if_eq (tgt := 18) hx hb dX4_bothHold_11 (by decide) (fun c_11 => ?_) (fun c_11 => ?_)
    · refine lv_iconst (v := 0) hx hb dX4_bothHold_18 (by decide) ?_
      exact rr_zret C hN dX4_bothHold_19 (by first | rfl | decide) (by first | rfl | (simp only [cu_hold]; first | done | ((repeat' split) <;> first | rfl | contradiction | (subst_vars; first | rfl | contradiction) | simp_all))) rfl
    · refine lv_iconst (v := 1) hx hb dX4_bothHold_14 (by decide) ?_
      refine lv_goto (tgt := 19) hx hb dX4_bothHold_15 (by decide) ?_
      exact rr_zret C hN dX4_bothHold_19 (by first | rfl | decide) (by first | rfl | (simp only [cu_hold]; first | done | ((repeat' split) <;> first | rfl | contradiction | (subst_vars; first | rfl | contradiction) | simp_all))) rfl
set_option maxRecDepth 20000 in
theorem kw_X1_isAway_X1 : ww_K wsX1_isAway RX1 TX1 10 tyX1 := ⟨by decide +kernel, tyX1_ok, nmX1⟩
set_option maxHeartbeats 4000000 in
set_option maxRecDepth 100000 in
theorem ct_X1_isAway (l : Launch) {D : va_G} {ca : Nat → ClassId} {B : Nat → Nat} {N n : Nat} {X : va_W} {u : ww_U} {i : Nat} (hi : i < n) (hNn : 36 + 8 * n ≤ N)  : ww_M l yX1_isAway wsX1_isAway ({ frames := 0, cells := 0, slots := 0, locals := 0 } : Room) D ca B N n X u [.ref (B (kC i))] (some (.int (cu_away u i))) u := by
  refine ww_met (cc := cX1_isAway) (maxL := 1) (ret := (some .boolean)) (by decide) rfl (Nat.le_of_ble_eq_true rfl) ?_
  intro p e s m args below meth c C hN ls hl
  have hl : lv_has ls 1 [(0, .ref (B (kC i)))] := hl
  have hx := C.1.1
  have hb := C.1.2.1
  have hNB : 36 ≤ N := by omega
  have hNN : 29 ≤ N := by omega
  refine lv_aload_n hx hb dX1_isAway_0 rfl (lv_at hl 0 rfl) ?_
  refine rr_get C hN (kC i) (kC_lt hNn hi) hC_ce rfl kw_X1_isAway_X1 5 (by decide) (List.mem_of_getElem? (i := 1) rfl) (v := .int (u (kC i) 5)) rfl dX1_isAway_1 ?_
  refine lv_if_ne (tgt := 14) hx hb dX1_isAway_4 (by decide) (fun c_4 => ?_) (fun c_4 => ?_)
  · refine lv_iconst (v := 1) hx hb dX1_isAway_14 (by decide) ?_
    refine lv_goto (tgt := 19) hx hb dX1_isAway_15 (by decide) ?_
    exact rr_zret C hN dX1_isAway_19 (by first | rfl | decide) (by first | rfl | (simp only [cu_away]; first | done | ((repeat' split) <;> first | rfl | contradiction | (subst_vars; first | rfl | contradiction) | simp_all))) rfl
  · refine lv_aload_n hx hb dX1_isAway_7 rfl (lv_at hl 0 rfl) ?_
    refine rr_get C hN (kC i) (kC_lt hNn hi) hC_ce rfl kw_X1_isAway_X1 6 (by decide) (List.mem_of_getElem? (i := 2) rfl) (v := .int (u (kC i) 6)) rfl dX1_isAway_8 ?_
    refine lv_if_eq (tgt := 18) hx hb dX1_isAway_11 (by decide) (fun c_11 => ?_) (fun c_11 => ?_)
    · refine lv_iconst (v := 0) hx hb dX1_isAway_18 (by decide) ?_
      exact rr_zret C hN dX1_isAway_19 (by first | rfl | decide) (by first | rfl | (simp only [cu_away]; first | done | ((repeat' split) <;> first | rfl | contradiction | (subst_vars; first | rfl | contradiction) | simp_all))) rfl
    · refine lv_iconst (v := 1) hx hb dX1_isAway_14 (by decide) ?_
      refine lv_goto (tgt := 19) hx hb dX1_isAway_15 (by decide) ?_
      exact rr_zret C hN dX1_isAway_19 (by first | rfl | decide) (by first | rfl | (simp only [cu_away]; first | done | ((repeat' split) <;> first | rfl | contradiction | (subst_vars; first | rfl | contradiction) | simp_all))) rfl
set_option maxRecDepth 20000 in
theorem kw_X1_isOfLastSet_X1 : ww_K wsX1_isOfLastSet RX1 TX1 10 tyX1 := ⟨by decide +kernel, tyX1_ok, nmX1⟩
set_option maxHeartbeats 4000000 in
set_option maxRecDepth 100000 in
theorem ct_X1_isOfLastSet (l : Launch) {D : va_G} {ca : Nat → ClassId} {B : Nat → Nat} {N n : Nat} {X : va_W} {u : ww_U} {i : Nat} (hi : i < n) (hNn : 36 + 8 * n ≤ N)  : ww_M l yX1_isOfLastSet wsX1_isOfLastSet ({ frames := 0, cells := 0, slots := 0, locals := 0 } : Room) D ca B N n X u [.ref (B (kC i))] (some (.int (cu_ols u i))) u := by
  refine ww_met (cc := cX1_isOfLastSet) (maxL := 1) (ret := (some .boolean)) (by decide) rfl (Nat.le_of_ble_eq_true rfl) ?_
  intro p e s m args below meth c C hN ls hl
  have hl : lv_has ls 1 [(0, .ref (B (kC i)))] := hl
  have hx := C.1.1
  have hb := C.1.2.1
  have hNB : 36 ≤ N := by omega
  have hNN : 29 ≤ N := by omega
  refine lv_aload_n hx hb dX1_isOfLastSet_0 rfl (lv_at hl 0 rfl) ?_
  refine rr_get C hN (kC i) (kC_lt hNn hi) hC_ce rfl kw_X1_isOfLastSet_X1 9 (by decide) (List.mem_of_getElem? (i := 1) rfl) (v := .int (u (kC i) 9)) rfl dX1_isOfLastSet_1 ?_
  refine lv_if_eq (tgt := 11) hx hb dX1_isOfLastSet_4 (by decide) (fun c_4 => ?_) (fun c_4 => ?_)
  · refine lv_iconst (v := 0) hx hb dX1_isOfLastSet_11 (by decide) ?_
    exact rr_zret C hN dX1_isOfLastSet_12 (by first | rfl | decide) (by first | rfl | (simp only [cu_ols]; first | done | ((repeat' split) <;> first | rfl | contradiction | (subst_vars; first | rfl | contradiction) | simp_all))) rfl
  · refine lv_iconst (v := 1) hx hb dX1_isOfLastSet_7 (by decide) ?_
    refine lv_goto (tgt := 12) hx hb dX1_isOfLastSet_8 (by decide) ?_
    exact rr_zret C hN dX1_isOfLastSet_12 (by first | rfl | decide) (by first | rfl | (simp only [cu_ols]; first | done | ((repeat' split) <;> first | rfl | contradiction | (subst_vars; first | rfl | contradiction) | simp_all))) rfl
set_option maxRecDepth 20000 in
theorem kw_X3_isOf_X3 : ww_K wsX3_isOf RX3 TX3 8 tyX3 := ⟨by decide +kernel, tyX3_ok, nmX3⟩
set_option maxHeartbeats 4000000 in
set_option maxRecDepth 100000 in
theorem ct_X3_isOf (l : Launch) {D : va_G} {ca : Nat → ClassId} {B : Nat → Nat} {N n : Nat} {X : va_W} {u : ww_U} {i : Nat} (hi : i < n) (x : Int32) (hNn : 36 + 8 * n ≤ N)  : ww_M l yX3_isOf wsX3_isOf ({ frames := 0, cells := 0, slots := 0, locals := 0 } : Room) D ca B N n X u [.ref (B (kP i)), .int x] (some (.int (cu_isOf u i x))) u := by
  refine ww_met (cc := cX3_isOf) (maxL := 2) (ret := (some .boolean)) (by decide) rfl (Nat.le_of_ble_eq_true rfl) ?_
  intro p e s m args below meth c C hN ls hl
  have hl : lv_has ls 2 [(0, .ref (B (kP i))), (1, .int x)] := hl
  have hx := C.1.1
  have hb := C.1.2.1
  have hNB : 36 ≤ N := by omega
  have hNN : 29 ≤ N := by omega
  refine lv_aload_n hx hb dX3_isOf_0 rfl (lv_at hl 0 rfl) ?_
  refine rr_get C hN (kP i) (kP_lt hNn hi) hP_ce rfl kw_X3_isOf_X3 4 (by decide) (List.mem_of_getElem? (i := 1) rfl) (v := .int (u (kP i) 4)) rfl dX3_isOf_1 ?_
  refine lv_if_eq (tgt := 19) hx hb dX3_isOf_4 (by decide) (fun c_4 => ?_) (fun c_4 => ?_)
  · refine lv_iconst (v := 0) hx hb dX3_isOf_19 (by decide) ?_
    exact rr_zret C hN dX3_isOf_20 (by first | rfl | decide) (by first | rfl | (simp only [cu_isOf]; first | done | ((repeat' split) <;> first | rfl | contradiction | (subst_vars; first | rfl | contradiction) | simp_all))) rfl
  · refine lv_aload_n hx hb dX3_isOf_7 rfl (lv_at hl 0 rfl) ?_
    refine rr_get C hN (kP i) (kP_lt hNn hi) hP_ce rfl kw_X3_isOf_X3 6 (by decide) (List.mem_of_getElem? (i := 2) rfl) (v := .int (u (kP i) 6)) rfl dX3_isOf_8 ?_
    refine lv_iload_n hx hb dX3_isOf_11 rfl (lv_at hl 1 rfl) ?_
    refine lv_icmp_ne (tgt := 19) hx hb dX3_isOf_12 (by decide) (fun c_12 => ?_) (fun c_12 => ?_)
    · refine lv_iconst (v := 0) hx hb dX3_isOf_19 (by decide) ?_
      exact rr_zret C hN dX3_isOf_20 (by first | rfl | decide) (by first | rfl | (simp only [cu_isOf]; first | done | ((repeat' split) <;> first | rfl | contradiction | (subst_vars; first | rfl | contradiction) | simp_all))) rfl
    · refine lv_iconst (v := 1) hx hb dX3_isOf_15 (by decide) ?_
      refine lv_goto (tgt := 20) hx hb dX3_isOf_16 (by decide) ?_
      exact rr_zret C hN dX3_isOf_20 (by first | rfl | decide) (by first | rfl | (simp only [cu_isOf]; first | done | ((repeat' split) <;> first | rfl | contradiction | (subst_vars; first | rfl | contradiction) | simp_all))) rfl
set_option maxRecDepth 20000 in
theorem kw_X3_loseBlock_X3 : ww_K wsX3_loseBlock RX3 TX3 8 tyX3 := ⟨by decide +kernel, tyX3_ok, nmX3⟩
set_option maxHeartbeats 4000000 in
set_option maxRecDepth 100000 in
theorem ct_X3_loseBlock (l : Launch) {D : va_G} {ca : Nat → ClassId} {B : Nat → Nat} {N n : Nat} {X : va_W} {u : ww_U} {i : Nat} (hi : i < n) (hNn : 36 + 8 * n ≤ N)  : ww_M l yX3_loseBlock wsX3_loseBlock ({ frames := 0, cells := 0, slots := 0, locals := 0 } : Room) D ca B N n X u [.ref (B (kP i))] none (cu_lose u i) := by
  refine ww_met (cc := cX3_loseBlock) (maxL := 1) (ret := none) (by decide) rfl (Nat.le_of_ble_eq_true rfl) ?_
  intro p e s m args below meth c C hN ls hl
  have hl : lv_has ls 1 [(0, .ref (B (kP i)))] := hl
  have hx := C.1.1
  have hb := C.1.2.1
  have hNB : 36 ≤ N := by omega
  have hNN : 29 ≤ N := by omega
  refine lv_aload_n hx hb dX3_loseBlock_0 rfl (lv_at hl 0 rfl) ?_
  refine rr_get C hN (kP i) (kP_lt hNn hi) hP_ce rfl kw_X3_loseBlock_X3 4 (by decide) (List.mem_of_getElem? (i := 1) rfl) (v := .int (u (kP i) 4)) rfl dX3_loseBlock_1 ?_
  refine lv_iconst (v := 1) hx hb dX3_loseBlock_4 (by decide) ?_
  refine lv_icmp_ne (tgt := 25) hx hb dX3_loseBlock_5 (by decide) (fun c_5 => ?_) (fun c_5 => ?_)
  · exact rr_vret C hN dX3_loseBlock_25 rfl (by subst_vars; first | rfl | (simp only [cu_lose]; done) | (simp only [cu_lose]; (repeat' split) <;> first | rfl | contradiction | simp_all))
  · refine lv_aload_n hx hb dX3_loseBlock_8 rfl (lv_at hl 0 rfl) ?_
    refine rr_get C hN (kP i) (kP_lt hNn hi) hP_ce rfl kw_X3_loseBlock_X3 5 (by decide) (List.mem_of_getElem? (i := 2) rfl) (v := .int (u (kP i) 5)) rfl dX3_loseBlock_9 ?_
    refine lv_if_le (tgt := 25) hx hb dX3_loseBlock_12 (by decide) (fun c_12 => ?_) (fun c_12 => ?_)
    · exact rr_vret C hN dX3_loseBlock_25 rfl (by subst_vars; first | rfl | (simp only [cu_lose]; done) | (simp only [cu_lose]; (repeat' split) <;> first | rfl | contradiction | simp_all))
    · refine lv_aload_n hx hb dX3_loseBlock_15 rfl (lv_at hl 0 rfl) ?_
      refine lv_dup hx hb dX3_loseBlock_16 rfl ?_
      refine rr_get C hN (kP i) (kP_lt hNn hi) hP_ce rfl kw_X3_loseBlock_X3 5 (by decide) (List.mem_of_getElem? (i := 2) rfl) (v := .int (u (kP i) 5)) rfl dX3_loseBlock_17 ?_
      refine lv_iconst (v := 1) hx hb dX3_loseBlock_20 (by decide) ?_
      refine lv_isub hx hb dX3_loseBlock_21 ?_
      refine lv_topi (fun v1 ev1 => ?_)
      refine rr_put C hN (kP i) (kP_lt hNn hi) hP_ce rfl kw_X3_loseBlock_X3 5 (by decide) (List.mem_of_getElem? (i := 2) rfl) rfl (x := v1) rfl rfl (Nat.le_of_ble_eq_true rfl) (hP_ce.trans rfl) dX3_loseBlock_22 (fun u2 eu2 H locs hN => ?_)
      exact rr_vret C hN dX3_loseBlock_25 rfl (by subst_vars; first | rfl | (simp only [cu_lose]; done) | (simp only [cu_lose]; (repeat' split) <;> first | rfl | contradiction | simp_all))
set_option maxRecDepth 20000 in
theorem kw_X4_find_X4 : ww_K wsX4_find RX4 TX4 8 tyX4 := ⟨by decide +kernel, tyX4_ok, nmX4⟩
set_option maxHeartbeats 4000000 in
set_option maxRecDepth 100000 in
theorem ct_X4_find (l : Launch) {D : va_G} {ca : Nat → ClassId} {B : Nat → Nat} {N n : Nat} {X : va_W} {u : ww_U} {x : Int32} (j : Nat) (hj : j < 8) (hj2 : j < n) (hxj : x = nI (j + 1)) (hNn : 36 + 8 * n ≤ N) (hx1 : ¬ x < 1) (hx2 : x ≤ u 29 1) : ww_M l yX4_find wsX4_find ({ frames := 0, cells := 0, slots := 0, locals := 0 } : Room) D ca B N n X u [.ref (B 29), .int x] (some (.ref (B (kC j)))) u := by
  refine ww_met (cc := cX4_find) (maxL := 2) (ret := (some (.object "UpdatePacks$Controller"))) (by decide) rfl (Nat.le_of_ble_eq_true rfl) ?_
  intro p e s m args below meth c C hN ls hl
  have hl : lv_has ls 2 [(0, .ref (B 29)), (1, .int x)] := hl
  have hx := C.1.1
  have hb := C.1.2.1
  have hNB : 36 ≤ N := by omega
  have hNN : 29 ≤ N := by omega
  refine lv_iload_n hx hb dX4_find_0 rfl (lv_at hl 1 rfl) ?_
  refine lv_iconst (v := 1) hx hb dX4_find_1 (by decide) ?_
  refine lv_icmp_lt (tgt := 13) hx hb dX4_find_2 (by decide) (fun c_2 => absurd c_2 hx1) (fun c_2 => ?_)
  refine lv_iload_n hx hb dX4_find_5 rfl (lv_at hl 1 rfl) ?_
  refine lv_aload_n hx hb dX4_find_6 rfl (lv_at hl 0 rfl) ?_
  refine rr_get C hN 29 (Nat.lt_of_lt_of_le (by decide) hNB) rfl rfl kw_X4_find_X4 1 (by decide) (List.mem_of_getElem? (i := 1) rfl) (v := .int (u 29 1)) rfl dX4_find_7 ?_
  refine lv_icmp_le (tgt := 15) hx hb dX4_find_10 (by decide) (fun c_10 => ?_) (fun c_10 => absurd c_10 (fun h => h hx2))
  refine lv_aload_n hx hb dX4_find_15 rfl (lv_at hl 0 rfl) ?_
  refine rr_get C hN 29 (Nat.lt_of_lt_of_le (by decide) hNB) rfl rfl kw_X4_find_X4 0 (by decide) (List.mem_of_getElem? (i := 2) rfl) (v := .ref (B 30)) rfl dX4_find_16 ?_
  refine lv_iload_n hx hb dX4_find_19 rfl (lv_at hl 1 rfl) ?_
  refine lv_iconst (v := 1) hx hb dX4_find_20 (by decide) ?_
  refine lv_isub hx hb dX4_find_21 ?_
  refine lv_topi (fun v1 ev1 => ?_)
  refine rr_ald C hN 30 (Nat.lt_of_lt_of_le (by decide) hNB) 3 rfl rfl (by decide) j hj (by rw [ev1, hxj]; exact nI_pred j) (v := .ref (B (kC j))) (by simp only [if_pos hj2]; rfl) dX4_find_22 ?_
  exact rr_aret C hN dX4_find_23 (Or.inr ⟨_, rfl⟩) rfl rfl
set_option maxHeartbeats 4000000 in
set_option maxRecDepth 100000 in
theorem ct_X4_find0 (l : Launch) {D : va_G} {ca : Nat → ClassId} {B : Nat → Nat} {N n : Nat} {X : va_W} {u : ww_U} {x : Int32} (h : x < 1 ∨ u 29 1 < x) (hNn : 36 + 8 * n ≤ N)  : ww_M l yX4_find wsX4_find ({ frames := 0, cells := 0, slots := 0, locals := 0 } : Room) D ca B N n X u [.ref (B 29), .int x] (some .null) u := by
  refine ww_met (cc := cX4_find) (maxL := 2) (ret := (some (.object "UpdatePacks$Controller"))) (by decide) rfl (Nat.le_of_ble_eq_true rfl) ?_
  intro p e s m args below meth c C hN ls hl
  have hl : lv_has ls 2 [(0, .ref (B 29)), (1, .int x)] := hl
  have hx := C.1.1
  have hb := C.1.2.1
  have hNB : 36 ≤ N := by omega
  have hNN : 29 ≤ N := by omega
  refine lv_iload_n hx hb dX4_find_0 rfl (lv_at hl 1 rfl) ?_
  refine lv_iconst (v := 1) hx hb dX4_find_1 (by decide) ?_
  refine lv_icmp_lt (tgt := 13) hx hb dX4_find_2 (by decide) (fun c_2 => ?_) (fun c_2 => ?_)
  · refine lv_null hx hb dX4_find_13 ?_
    exact rr_aret C hN dX4_find_14 (Or.inl rfl) rfl rfl
  · refine lv_iload_n hx hb dX4_find_5 rfl (lv_at hl 1 rfl) ?_
    refine lv_aload_n hx hb dX4_find_6 rfl (lv_at hl 0 rfl) ?_
    refine rr_get C hN 29 (Nat.lt_of_lt_of_le (by decide) hNB) rfl rfl kw_X4_find_X4 1 (by decide) (List.mem_of_getElem? (i := 1) rfl) (v := .int (u 29 1)) rfl dX4_find_7 ?_
    refine lv_icmp_le (tgt := 15) hx hb dX4_find_10 (by decide) (fun c_10 => absurd c_10 (by rcases h with h | h; exact absurd h c_2; exact Int32.not_le.mpr h)) (fun c_10 => ?_)
    refine lv_null hx hb dX4_find_13 ?_
    exact rr_aret C hN dX4_find_14 (Or.inl rfl) rfl rfl
set_option maxRecDepth 20000 in
theorem kw_X1_runningBank_X1 : ww_K wsX1_runningBank RX1 TX1 10 tyX1 := ⟨by decide +kernel, tyX1_ok, nmX1⟩
set_option maxHeartbeats 4000000 in
set_option maxRecDepth 100000 in
theorem ct_X1_runningBank (l : Launch) {D : va_G} {ca : Nat → ClassId} {B : Nat → Nat} {N n : Nat} {X : va_W} {u : ww_U} {i : Nat} (hi : i < n) {b : Nat} (hb2 : b < 2) (hbe : u (kC i) 3 = nI b) (hNn : 36 + 8 * n ≤ N)  : ww_M l yX1_runningBank wsX1_runningBank ({ frames := 0, cells := 0, slots := 0, locals := 0 } : Room) D ca B N n X u [.ref (B (kC i))] (some (.ref (B (kB i b)))) u := by
  refine ww_met (cc := cX1_runningBank) (maxL := 1) (ret := (some (.object "UpdatePacks$Bank"))) (by decide) rfl (Nat.le_of_ble_eq_true rfl) ?_
  intro p e s m args below meth c C hN ls hl
  have hl : lv_has ls 1 [(0, .ref (B (kC i)))] := hl
  have hx := C.1.1
  have hb := C.1.2.1
  have hNB : 36 ≤ N := by omega
  have hNN : 29 ≤ N := by omega
  refine lv_aload_n hx hb dX1_runningBank_0 rfl (lv_at hl 0 rfl) ?_
  refine rr_get C hN (kC i) (kC_lt hNn hi) hC_ce rfl kw_X1_runningBank_X1 1 (by decide) (List.mem_of_getElem? (i := 1) rfl) (v := .ref (B (kR i))) rfl dX1_runningBank_1 ?_
  refine lv_aload_n hx hb dX1_runningBank_4 rfl (lv_at hl 0 rfl) ?_
  refine rr_get C hN (kC i) (kC_lt hNn hi) hC_ce rfl kw_X1_runningBank_X1 3 (by decide) (List.mem_of_getElem? (i := 2) rfl) (v := .int (u (kC i) 3)) rfl dX1_runningBank_5 ?_
  refine rr_ald C hN (kR i) (kR_lt hNn hi) 4 hR_ce rfl (by decide) b hb2 hbe (v := .ref (B (kB i b))) rfl dX1_runningBank_8 ?_
  exact rr_aret C hN dX1_runningBank_9 (Or.inr ⟨_, rfl⟩) rfl rfl
set_option maxRecDepth 20000 in
theorem kw_X1_runOtherBank_X0 : ww_K wsX1_runOtherBank RX0 TX0 3 tyX0 := ⟨by decide +kernel, tyX0_ok, nmX0⟩
set_option maxRecDepth 20000 in
theorem kw_X1_runOtherBank_X1 : ww_K wsX1_runOtherBank RX1 TX1 10 tyX1 := ⟨by decide +kernel, tyX1_ok, nmX1⟩
set_option maxHeartbeats 4000000 in
set_option maxRecDepth 100000 in
theorem ct_X1_runOtherBank (l : Launch) {D : va_G} {ca : Nat → ClassId} {B : Nat → Nat} {N n : Nat} {X : va_W} {u : ww_U} {i : Nat} (hi : i < n) {b : Nat} (hb2 : b < 2) (hbe : u (kC i) 3 = nI b) (hNn : 36 + 8 * n ≤ N)  : ww_M l yX1_runOtherBank wsX1_runOtherBank ({ frames := 0, cells := 0, slots := 0, locals := 0 } : Room) D ca B N n X u [.ref (B (kC i))] none (cu_other u i) := by
  refine ww_met (cc := cX1_runOtherBank) (maxL := 1) (ret := none) (by decide) rfl (Nat.le_of_ble_eq_true rfl) ?_
  intro p e s m args below meth c C hN ls hl
  have hl : lv_has ls 1 [(0, .ref (B (kC i)))] := hl
  have hx := C.1.1
  have hb := C.1.2.1
  have hNB : 36 ≤ N := by omega
  have hNN : 29 ≤ N := by omega
  have hb3 : 1 - b < 2 := by omega
  have hcb : cu_b u i = b := by unfold cu_b; rw [hbe]; exact nI_clamp (by omega)
  refine lv_aload_n hx hb dX1_runOtherBank_0 rfl (lv_at hl 0 rfl) ?_
  refine lv_iconst (v := 1) hx hb dX1_runOtherBank_1 (by decide) ?_
  refine lv_aload_n hx hb dX1_runOtherBank_2 rfl (lv_at hl 0 rfl) ?_
  refine rr_get C hN (kC i) (kC_lt hNn hi) hC_ce rfl kw_X1_runOtherBank_X1 3 (by decide) (List.mem_of_getElem? (i := 1) rfl) (v := .int (u (kC i) 3)) rfl dX1_runOtherBank_3 ?_
  refine lv_isub hx hb dX1_runOtherBank_6 ?_
  refine lv_topi (fun v1 ev1 => ?_)
  refine rr_put C hN (kC i) (kC_lt hNn hi) hC_ce rfl kw_X1_runOtherBank_X1 3 (by decide) (List.mem_of_getElem? (i := 1) rfl) rfl (x := v1) rfl rfl (Nat.le_of_ble_eq_true rfl) (hC_ce.trans rfl) dX1_runOtherBank_7 (fun u2 eu2 H locs hN => ?_)
  refine lv_aload_n hx hb dX1_runOtherBank_10 rfl (lv_at hl 0 rfl) ?_
  refine lv_aload_n hx hb dX1_runOtherBank_11 rfl (lv_at hl 0 rfl) ?_
  refine rr_get C hN (kC i) (kC_lt hNn hi) hC_ce rfl kw_X1_runOtherBank_X1 1 (by decide) (List.mem_of_getElem? (i := 2) rfl) (v := .ref (B (kR i))) rfl dX1_runOtherBank_12 ?_
  refine lv_aload_n hx hb dX1_runOtherBank_15 rfl (lv_at hl 0 rfl) ?_
  refine rr_get C hN (kC i) (kC_lt hNn hi) hC_ce rfl kw_X1_runOtherBank_X1 3 (by decide) (List.mem_of_getElem? (i := 1) rfl) (v := .int (u2 (kC i) 3)) rfl dX1_runOtherBank_16 ?_
  refine rr_ald C hN (kR i) (kR_lt hNn hi) 4 hR_ce rfl (by decide) (1 - b) hb3 (by rw [eu2, ww_up_self, ev1, hbe]; exact nI_sub1 hb2) (v := .ref (B (kB i (1 - b)))) rfl dX1_runOtherBank_19 ?_
  refine rr_get C hN (kB i (1 - b)) (kB_lt hNn hi hb3) (hB_ce hb3) rfl kw_X1_runOtherBank_X0 1 (by decide) (List.mem_of_getElem? (i := 3) rfl) (v := .int (u2 (kB i (1 - b)) 1)) rfl dX1_runOtherBank_20 ?_
  refine rr_put C hN (kC i) (kC_lt hNn hi) hC_ce rfl kw_X1_runOtherBank_X1 4 (by decide) (List.mem_of_getElem? (i := 4) rfl) rfl (x := (u2 (kB i (1 - b)) 1)) rfl rfl (Nat.le_of_ble_eq_true rfl) (hC_ce.trans rfl) dX1_runOtherBank_23 (fun u3 eu3 H locs hN => ?_)
  exact rr_vret C hN dX1_runOtherBank_26 rfl (by subst_vars; rfl)
