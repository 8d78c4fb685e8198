def mo_rd (u : ww_U) (k j : Nat) : Nat := (u k j).toNatClampNeg
def okn (x : Int32) (b : Nat) : Prop := x = nI x.toNatClampNeg ∧ x.toNatClampNeg ≤ b
theorem okn_nI {a b : Nat} (h : a ≤ b) (hb : b < 2 ^ 31) : okn (nI a) b := by
  have e : (nI a).toNatClampNeg = a := nI_clamp (by omega)
  unfold okn
  rw [e]
  exact ⟨rfl, h⟩
def mo_z (u : ww_U) : ww_U := ww_up u 0 0 0
def mo_none (u : ww_U) (x : Int32) : Int32 := if x < 1 then 1 else if x ≤ u 0 1 then 0 else 1
theorem mo_none_0 {u : ww_U} {x : Int32} (h1 : ¬ x < 1) (h2 : x ≤ u 0 1) : mo_none u x = 0 := by unfold mo_none; rw [if_neg h1, if_pos h2]
theorem mo_none_1 {u : ww_U} {x : Int32} (h : x < 1 ∨ u 0 1 < x) : mo_none u x = 1 := by
  unfold mo_none
  rcases h with h | h
  · rw [if_pos h]
  · rw [if_neg (Int32.not_le.mpr h)]; split <;> rfl
def mo_st (u : ww_U) (c : Nat) : Int32 := if u 4 c = 0 then 0 else u 14 (mo_rd u 4 c)
def mo_th (u : ww_U) (c : Nat) : Int32 := if u 5 c = 0 then (if u 6 c = 0 then 1 else 0) else 0
def mo_ho (u : ww_U) : Int32 := if u 0 26 = 0 then (if u 0 27 = 0 then 1 else 0) else 0
def mo_op (u : ww_U) (p : Nat) : Int32 := if u 4 (mo_rd u 11 p) = nI p then 1 else 0
def mo_m8 (x : Int32) : Nat := x.toBitVec.toNat % 8
def mo_ctl (n : Nat) (u : ww_U) (h : Int32) : ww_U × Int32 := if h < 1 then (mo_z u, -2) else if h ≤ 127 then (if n = 8 then (mo_z u, -4) else (ww_up (ww_up (ww_up (mo_z u) 0 1 (nI (n + 1))) 1 (n + 1) h) 7 (n + 1) (-1), nI (n + 1))) else (mo_z u, -2)
def mo_oct (u : ww_U) (x : Int32) (g : Nat) : ww_U := if g = 256 then mo_z u else ww_up (ww_up (mo_z u) 20 g (x &&& 255)) 0 22 (nI (g + 1))
def mo_block (u : ww_U) (c : Nat) (y z : Int32) : ww_U × Int32 := if y < 0 then (mo_z u, -2) else if 15 < y then (mo_z u, -2) else if z = 0 then (mo_z u, -2) else (ww_up (ww_up (mo_z u) 7 c y) 8 c (z &&& 255), 1)
def mo_neg (z : Int32) : Int32 := if z = 0 then 1 else 0
def mo_cond (u : ww_U) (x z : Int32) : ww_U × Int32 := if x < 0 then (mo_z u, -1) else if x ≤ 1 then (if x = 0 then (ww_up (mo_z u) 0 26 (mo_neg z), mo_ho (ww_up (mo_z u) 0 26 (mo_neg z))) else (ww_up (mo_z u) 0 27 (mo_neg z), mo_ho (ww_up (mo_z u) 0 27 (mo_neg z)))) else (mo_z u, -1)
theorem mo_ho_1 {u : ww_U} (h : ¬ mo_ho u = 0) : mo_ho u = 1 := by
  unfold mo_ho at h ⊢
  (repeat' split) <;> simp_all
set_option maxRecDepth 20000 in
theorem kw_X5_thrown_X5 : ww_K wsX5_thrown RX5 TX5 36 tyX5 := ⟨by decide +kernel, tyX5_ok, nmX5⟩
set_option maxHeartbeats 4000000 in
set_option maxRecDepth 100000 in
theorem ct_X5_thrown (l : Launch) {D : va_G} {ca : Nat → ClassId} {B : Nat → Nat} {N n : Nat} {X : va_W} {u : ww_U}  (hNN : 29 ≤ N)  : ww_M l yX5_thrown wsX5_thrown ({ frames := 0, cells := 0, slots := 0, locals := 0 } : Room) D ca B N n X u [.ref (B 0)] (some (.int (u 0 0))) u := by
  refine ww_met (cc := cX5_thrown) (maxL := 1) (ret := (some .int)) (by decide) rfl (Nat.le_of_ble_eq_true rfl) ?_
  intro p e s m args below meth c C hN ls hl
  have hl : lv_has ls 1 [(0, .ref (B 0))] := hl
  have hx := C.1.1
  have hb := C.1.2.1
  refine lv_aload_n hx hb dX5_thrown_0 rfl (lv_at hl 0 rfl) ?_
  refine rr_get C hN 0 (Nat.lt_of_lt_of_le (by decide) hNN) rfl rfl kw_X5_thrown_X5 0 (by decide) (List.mem_of_getElem? (i := 1) rfl) (v := .int (u 0 0)) rfl dX5_thrown_1 ?_
  exact rr_iret C hN dX5_thrown_4 rfl rfl
set_option maxHeartbeats 4000000 in
set_option maxRecDepth 100000 in
theorem ct_X5_turned (l : Launch) {D : va_G} {ca : Nat → ClassId} {B : Nat → Nat} {N n : Nat} {X : va_W} {u : ww_U} (x y : Int32) (hNN : 29 ≤ N)  : ww_M l yX5_turned wsX5_turned ({ frames := 0, cells := 0, slots := 0, locals := 0 } : Room) D ca B N n X u [.int x, .int y] (some (.int (sh_t x y))) u := by
  refine ww_met (cc := cX5_turned) (maxL := 2) (ret := (some .int)) (by decide) rfl (Nat.le_of_ble_eq_true rfl) ?_
  intro p e s m args below meth c C hN ls hl
  have hl : lv_has ls 2 [(0, .int x), (1, .int y)] := hl
  have hx := C.1.1
  have hb := C.1.2.1
  refine lv_iload_n hx hb dX5_turned_0 rfl (lv_at hl 0 rfl) ?_
  refine lv_iload_n hx hb dX5_turned_1 rfl (lv_at hl 1 rfl) ?_
  refine lv_iushr hx hb dX5_turned_2 rfl ?_
  refine lv_topi (fun v1 ev1 => ?_)
  refine lv_iload_n hx hb dX5_turned_3 rfl (lv_at hl 0 rfl) ?_
  refine lv_bipush (v := 32) hx hb dX5_turned_4 (by decide) ?_
  refine lv_iload_n hx hb dX5_turned_6 rfl (lv_at hl 1 rfl) ?_
  refine lv_isub hx hb dX5_turned_7 ?_
  refine lv_topi (fun v2 ev2 => ?_)
  refine lv_ishl hx hb dX5_turned_8 ?_
  refine lv_topi (fun v3 ev3 => ?_)
  refine lv_ior hx hb dX5_turned_9 ?_
  refine lv_topi (fun v4 ev4 => ?_)
  exact rr_iret C hN dX5_turned_10 (by subst_vars; rfl) rfl
set_option maxRecDepth 20000 in
theorem kw_X5_at_X5 : ww_K wsX5_at RX5 TX5 36 tyX5 := ⟨by decide +kernel, tyX5_ok, nmX5⟩
set_option maxHeartbeats 4000000 in
set_option maxRecDepth 100000 in
theorem ct_X5_at (l : Launch) {D : va_G} {ca : Nat → ClassId} {B : Nat → Nat} {N n : Nat} {X : va_W} {u : ww_U} (x y : Int32) (hNN : 29 ≤ N)  : ww_M l yX5_at wsX5_at ({ frames := 0, cells := 0, slots := 0, locals := 0 } : Room) D ca B N n X u [.ref (B 0), .int x, .int y] (some (.int (u 28 (mo_m8 (x - y))))) u := by
  refine ww_met (cc := cX5_at) (maxL := 3) (ret := (some .int)) (by decide) rfl (Nat.le_of_ble_eq_true rfl) ?_
  intro p e s m args below meth c C hN ls hl
  have hl : lv_has ls 3 [(0, .ref (B 0)), (1, .int x), (2, .int y)] := hl
  have hx := C.1.1
  have hb := C.1.2.1
  refine lv_aload_n hx hb dX5_at_0 rfl (lv_at hl 0 rfl) ?_
  refine rr_get C hN 0 (Nat.lt_of_lt_of_le (by decide) hNN) rfl rfl kw_X5_at_X5 35 (by decide) (List.mem_of_getElem? (i := 1) rfl) (v := .ref (B 28)) rfl dX5_at_1 ?_
  refine lv_iload_n hx hb dX5_at_4 rfl (lv_at hl 1 rfl) ?_
  refine lv_iload_n hx hb dX5_at_5 rfl (lv_at hl 2 rfl) ?_
  refine lv_isub hx hb dX5_at_6 ?_
  refine lv_topi (fun v1 ev1 => ?_)
  refine lv_bipush (v := 7) hx hb dX5_at_7 (by decide) ?_
  refine lv_iand hx hb dX5_at_9 ?_
  refine lv_topi (fun v2 ev2 => ?_)
  refine rr_iald C hN 28 (Nat.lt_of_lt_of_le (by decide) hNN) rfl (by decide) (mo_m8 (x - y)) (Nat.mod_lt _ (by decide)) (by rw [ev2, ev1]; exact pk_and _ 3 (by decide)) dX5_at_10 ?_
  exact rr_iret C hN dX5_at_11 rfl rfl
set_option maxRecDepth 20000 in
theorem kw_X5_none_X5 : ww_K wsX5_none RX5 TX5 36 tyX5 := ⟨by decide +kernel, tyX5_ok, nmX5⟩
set_option maxHeartbeats 4000000 in
set_option maxRecDepth 100000 in
theorem ct_X5_none (l : Launch) {D : va_G} {ca : Nat → ClassId} {B : Nat → Nat} {N n : Nat} {X : va_W} {u : ww_U} (x : Int32) (hNN : 29 ≤ N)  : ww_M l yX5_none wsX5_none ({ frames := 0, cells := 0, slots := 0, locals := 0 } : Room) D ca B N n X u [.ref (B 0), .int x] (some (.int (mo_none u x))) (mo_z u) := by
  refine ww_met (cc := cX5_none) (maxL := 2) (ret := (some .boolean)) (by decide) rfl (Nat.le_of_ble_eq_true rfl) ?_
  intro p e s m args below meth c C hN ls hl
  have hl : lv_has ls 2 [(0, .ref (B 0)), (1, .int x)] := hl
  have hx := C.1.1
  have hb := C.1.2.1
  refine lv_aload_n hx hb dX5_none_0 rfl (lv_at hl 0 rfl) ?_
  refine lv_iconst (v := 0) hx hb dX5_none_1 (by decide) ?_
  refine rr_put C hN 0 (Nat.lt_of_lt_of_le (by decide) hNN) rfl rfl kw_X5_none_X5 0 (by decide) (List.mem_of_getElem? (i := 1) rfl) rfl (x := 0) rfl rfl (Nat.le_of_ble_eq_true rfl) ((Eq.refl _).trans rfl) dX5_none_2 (fun u1 eu1 H locs hN => ?_)
  refine lv_iload_n hx hb dX5_none_5 rfl (lv_at hl 1 rfl) ?_
  refine lv_iconst (v := 1) hx hb dX5_none_6 (by decide) ?_
  refine lv_icmp_lt (tgt := 18) hx hb dX5_none_7 (by decide) (fun c_7 => ?_) (fun c_7 => ?_)
  · refine lv_iconst (v := 1) hx hb dX5_none_18 (by decide) ?_
    refine lv_goto (tgt := 23) hx hb dX5_none_19 (by decide) ?_
    exact rr_zret C hN dX5_none_23 (by first | rfl | decide) (by subst_vars; first | rfl | (simp only [mo_none, ww_up_nj (show (1 : Nat) ≠ 0 by decide)]; done) | (simp only [mo_none, ww_up_nj (show (1 : Nat) ≠ 0 by decide)]; (repeat' split) <;> first | rfl | contradiction | simp_all)) (by subst_vars; rfl)
  · refine lv_iload_n hx hb dX5_none_10 rfl (lv_at hl 1 rfl) ?_
    refine lv_aload_n hx hb dX5_none_11 rfl (lv_at hl 0 rfl) ?_
    refine rr_get C hN 0 (Nat.lt_of_lt_of_le (by decide) hNN) rfl rfl kw_X5_none_X5 1 (by decide) (List.mem_of_getElem? (i := 2) rfl) (v := .int (u1 0 1)) rfl dX5_none_12 ?_
    refine lv_icmp_le (tgt := 22) hx hb dX5_none_15 (by decide) (fun c_15 => ?_) (fun c_15 => ?_)
    · refine lv_iconst (v := 0) hx hb dX5_none_22 (by decide) ?_
      exact rr_zret C hN dX5_none_23 (by first | rfl | decide) (by subst_vars; first | rfl | (simp only [mo_none, ww_up_nj (show (1 : Nat) ≠ 0 by decide)]; done) | (simp only [mo_none, ww_up_nj (show (1 : Nat) ≠ 0 by decide)]; (repeat' split) <;> first | rfl | contradiction | simp_all)) (by subst_vars; rfl)
    · refine lv_iconst (v := 1) hx hb dX5_none_18 (by decide) ?_
      refine lv_goto (tgt := 23) hx hb dX5_none_19 (by decide) ?_
      exact rr_zret C hN dX5_none_23 (by first | rfl | decide) (by subst_vars; first | rfl | (simp only [mo_none, ww_up_nj (show (1 : Nat) ≠ 0 by decide)]; done) | (simp only [mo_none, ww_up_nj (show (1 : Nat) ≠ 0 by decide)]; (repeat' split) <;> first | rfl | contradiction | simp_all)) (by subst_vars; rfl)
set_option maxRecDepth 20000 in
theorem kw_X5_stateOf_X5 : ww_K wsX5_stateOf RX5 TX5 36 tyX5 := ⟨by decide +kernel, tyX5_ok, nmX5⟩
set_option maxHeartbeats 4000000 in
set_option maxRecDepth 100000 in
theorem ct_X5_stateOf (l : Launch) {D : va_G} {ca : Nat → ClassId} {B : Nat → Nat} {N n : Nat} {X : va_W} {u : ww_U} {x : Int32} {q : Nat} (hq8 : q ≤ 8) (hxq : x = nI q) (hNN : 29 ≤ N) (hop : okn (u 4 q) 60) : ww_M l yX5_stateOf wsX5_stateOf ({ frames := 0, cells := 0, slots := 0, locals := 0 } : Room) D ca B N n X u [.ref (B 0), .int x] (some (.int (mo_st u q))) u := by
  refine ww_met (cc := cX5_stateOf) (maxL := 2) (ret := (some .int)) (by decide) rfl (Nat.le_of_ble_eq_true rfl) ?_
  intro p e s m args below meth c C hN ls hl
  have hl : lv_has ls 2 [(0, .ref (B 0)), (1, .int x)] := hl
  have hx := C.1.1
  have hb := C.1.2.1
  refine lv_aload_n hx hb dX5_stateOf_0 rfl (lv_at hl 0 rfl) ?_
  refine rr_get C hN 0 (Nat.lt_of_lt_of_le (by decide) hNN) rfl rfl kw_X5_stateOf_X5 5 (by decide) (List.mem_of_getElem? (i := 1) rfl) (v := .ref (B 4)) rfl dX5_stateOf_1 ?_
  refine lv_iload_n hx hb dX5_stateOf_4 rfl (lv_at hl 1 rfl) ?_
  refine rr_iald C hN 4 (Nat.lt_of_lt_of_le (by decide) hNN) rfl (by decide) q (by omega) hxq dX5_stateOf_5 ?_
  refine lv_if_ne (tgt := 13) hx hb dX5_stateOf_6 (by decide) (fun c_6 => ?_) (fun c_6 => ?_)
  · refine lv_aload_n hx hb dX5_stateOf_13 rfl (lv_at hl 0 rfl) ?_
    refine rr_get C hN 0 (Nat.lt_of_lt_of_le (by decide) hNN) rfl rfl kw_X5_stateOf_X5 16 (by decide) (List.mem_of_getElem? (i := 2) rfl) (v := .ref (B 14)) rfl dX5_stateOf_14 ?_
    refine lv_aload_n hx hb dX5_stateOf_17 rfl (lv_at hl 0 rfl) ?_
    refine rr_get C hN 0 (Nat.lt_of_lt_of_le (by decide) hNN) rfl rfl kw_X5_stateOf_X5 5 (by decide) (List.mem_of_getElem? (i := 1) rfl) (v := .ref (B 4)) rfl dX5_stateOf_18 ?_
    refine lv_iload_n hx hb dX5_stateOf_21 rfl (lv_at hl 1 rfl) ?_
    refine rr_iald C hN 4 (Nat.lt_of_lt_of_le (by decide) hNN) rfl (by decide) q (by omega) hxq dX5_stateOf_22 ?_
    refine rr_iald C hN 14 (Nat.lt_of_lt_of_le (by decide) hNN) rfl (by decide) (mo_rd u 4 q) (Nat.lt_succ_of_le hop.2) hop.1 dX5_stateOf_23 ?_
    exact rr_iret C hN dX5_stateOf_24 (by subst_vars; first | rfl | (simp only [mo_st]; done) | (simp only [mo_st]; (repeat' split) <;> first | rfl | contradiction | simp_all)) rfl
  · refine lv_iconst (v := 0) hx hb dX5_stateOf_9 (by decide) ?_
    refine lv_goto (tgt := 24) hx hb dX5_stateOf_10 (by decide) ?_
    exact rr_iret C hN dX5_stateOf_24 (by subst_vars; first | rfl | (simp only [mo_st]; done) | (simp only [mo_st]; (repeat' split) <;> first | rfl | contradiction | simp_all)) rfl
set_option maxRecDepth 20000 in
theorem kw_X5_there_X5 : ww_K wsX5_there RX5 TX5 36 tyX5 := ⟨by decide +kernel, tyX5_ok, nmX5⟩
set_option maxHeartbeats 4000000 in
set_option maxRecDepth 100000 in
theorem ct_X5_there (l : Launch) {D : va_G} {ca : Nat → ClassId} {B : Nat → Nat} {N n : Nat} {X : va_W} {u : ww_U} {x : Int32} {q : Nat} (hq8 : q ≤ 8) (hxq : x = nI q) (hNN : 29 ≤ N)  : ww_M l yX5_there wsX5_there ({ frames := 0, cells := 0, slots := 0, locals := 0 } : Room) D ca B N n X u [.ref (B 0), .int x] (some (.int (mo_th u q))) u := by
  refine ww_met (cc := cX5_there) (maxL := 2) (ret := (some .boolean)) (by decide) rfl (Nat.le_of_ble_eq_true rfl) ?_
  intro p e s m args below meth c C hN ls hl
  have hl : lv_has ls 2 [(0, .ref (B 0)), (1, .int x)] := hl
  have hx := C.1.1
  have hb := C.1.2.1
  refine lv_aload_n hx hb dX5_there_0 rfl (lv_at hl 0 rfl) ?_
  refine rr_get C hN 0 (Nat.lt_of_lt_of_le (by decide) hNN) rfl rfl kw_X5_there_X5 6 (by decide) (List.mem_of_getElem? (i := 1) rfl) (v := .ref (B 5)) rfl dX5_there_1 ?_
  refine lv_iload_n hx hb dX5_there_4 rfl (lv_at hl 1 rfl) ?_
  refine rr_zald C hN 5 (Nat.lt_of_lt_of_le (by decide) hNN) rfl (by decide) q (by omega) hxq dX5_there_5 ?_
  refine lv_if_ne (tgt := 22) hx hb dX5_there_6 (by decide) (fun c_6 => ?_) (fun c_6 => ?_)
  · refine lv_iconst (v := 0) hx hb dX5_there_22 (by decide) ?_
    exact rr_zret C hN dX5_there_23 (by first | rfl | decide) (by subst_vars; first | rfl | (simp only [mo_th]; done) | (simp only [mo_th]; (repeat' split) <;> first | rfl | contradiction | simp_all)) rfl
  · refine lv_aload_n hx hb dX5_there_9 rfl (lv_at hl 0 rfl) ?_
    refine rr_get C hN 0 (Nat.lt_of_lt_of_le (by decide) hNN) rfl rfl kw_X5_there_X5 7 (by decide) (List.mem_of_getElem? (i := 2) rfl) (v := .ref (B 6)) rfl dX5_there_10 ?_
    refine lv_iload_n hx hb dX5_there_13 rfl (lv_at hl 1 rfl) ?_
    refine rr_zald C hN 6 (Nat.lt_of_lt_of_le (by decide) hNN) rfl (by decide) q (by omega) hxq dX5_there_14 ?_
    refine lv_if_ne (tgt := 22) hx hb dX5_there_15 (by decide) (fun c_15 => ?_) (fun c_15 => ?_)
    · refine lv_iconst (v := 0) hx hb dX5_there_22 (by decide) ?_
      exact rr_zret C hN dX5_there_23 (by first | rfl | decide) (by subst_vars; first | rfl | (simp only [mo_th]; done) | (simp only [mo_th]; (repeat' split) <;> first | rfl | contradiction | simp_all)) rfl
    · refine lv_iconst (v := 1) hx hb dX5_there_18 (by decide) ?_
      refine lv_goto (tgt := 23) hx hb dX5_there_19 (by decide) ?_
      exact rr_zret C hN dX5_there_23 (by first | rfl | decide) (by subst_vars; first | rfl | (simp only [mo_th]; done) | (simp only [mo_th]; (repeat' split) <;> first | rfl | contradiction | simp_all)) rfl
set_option maxRecDepth 20000 in
theorem kw_X5_hold_X5 : ww_K wsX5_hold RX5 TX5 36 tyX5 := ⟨by decide +kernel, tyX5_ok, nmX5⟩
set_option maxHeartbeats 4000000 in
set_option maxRecDepth 100000 in
theorem ct_X5_hold (l : Launch) {D : va_G} {ca : Nat → ClassId} {B : Nat → Nat} {N n : Nat} {X : va_W} {u : ww_U}  (hNN : 29 ≤ N)  : ww_M l yX5_hold wsX5_hold ({ frames := 0, cells := 0, slots := 0, locals := 0 } : Room) D ca B N n X u [.ref (B 0)] (some (.int (mo_ho u))) u := by
  refine ww_met (cc := cX5_hold) (maxL := 1) (ret := (some .boolean)) (by decide) rfl (Nat.le_of_ble_eq_true rfl) ?_
  intro p e s m args below meth c C hN ls hl
  have hl : lv_has ls 1 [(0, .ref (B 0))] := hl
  have hx := C.1.1
  have hb := C.1.2.1
  refine lv_aload_n hx hb dX5_hold_0 rfl (lv_at hl 0 rfl) ?_
  refine rr_get C hN 0 (Nat.lt_of_lt_of_le (by decide) hNN) rfl rfl kw_X5_hold_X5 26 (by decide) (List.mem_of_getElem? (i := 1) rfl) (v := .int (u 0 26)) rfl dX5_hold_1 ?_
  refine lv_if_ne (tgt := 18) hx hb dX5_hold_4 (by decide) (fun c_4 => ?_) (fun c_4 => ?_)
  · refine lv_iconst (v := 0) hx hb dX5_hold_18 (by decide) ?_
    exact rr_zret C hN dX5_hold_19 (by first | rfl | decide) (by subst_vars; first | rfl | (simp only [mo_ho]; done) | (simp only [mo_ho]; (repeat' split) <;> first | rfl | contradiction | simp_all)) rfl
  · refine lv_aload_n hx hb dX5_hold_7 rfl (lv_at hl 0 rfl) ?_
    refine rr_get C hN 0 (Nat.lt_of_lt_of_le (by decide) hNN) rfl rfl kw_X5_hold_X5 27 (by decide) (List.mem_of_getElem? (i := 2) rfl) (v := .int (u 0 27)) rfl dX5_hold_8 ?_
    refine lv_if_ne (tgt := 18) hx hb dX5_hold_11 (by decide) (fun c_11 => ?_) (fun c_11 => ?_)
    · refine lv_iconst (v := 0) hx hb dX5_hold_18 (by decide) ?_
      exact rr_zret C hN dX5_hold_19 (by first | rfl | decide) (by subst_vars; first | rfl | (simp only [mo_ho]; done) | (simp only [mo_ho]; (repeat' split) <;> first | rfl | contradiction | simp_all)) rfl
    · refine lv_iconst (v := 1) hx hb dX5_hold_14 (by decide) ?_
      refine lv_goto (tgt := 19) hx hb dX5_hold_15 (by decide) ?_
      exact rr_zret C hN dX5_hold_19 (by first | rfl | decide) (by subst_vars; first | rfl | (simp only [mo_ho]; done) | (simp only [mo_ho]; (repeat' split) <;> first | rfl | contradiction | simp_all)) rfl
set_option maxRecDepth 20000 in
theorem kw_X5_isOpen_X5 : ww_K wsX5_isOpen RX5 TX5 36 tyX5 := ⟨by decide +kernel, tyX5_ok, nmX5⟩
set_option maxHeartbeats 4000000 in
set_option maxRecDepth 100000 in
theorem ct_X5_isOpen (l : Launch) {D : va_G} {ca : Nat → ClassId} {B : Nat → Nat} {N n : Nat} {X : va_W} {u : ww_U} {x : Int32} {q : Nat} (hq60 : q ≤ 60) (hxq : x = nI q) (hNN : 29 ≤ N) (hof : okn (u 11 q) 8) : ww_M l yX5_isOpen wsX5_isOpen ({ frames := 0, cells := 0, slots := 0, locals := 0 } : Room) D ca B N n X u [.ref (B 0), .int x] (some (.int (mo_op u q))) u := by
  refine ww_met (cc := cX5_isOpen) (maxL := 2) (ret := (some .boolean)) (by decide) rfl (Nat.le_of_ble_eq_true rfl) ?_
  intro p e s m args below meth c C hN ls hl
  have hl : lv_has ls 2 [(0, .ref (B 0)), (1, .int x)] := hl
  have hx := C.1.1
  have hb := C.1.2.1
  refine lv_aload_n hx hb dX5_isOpen_0 rfl (lv_at hl 0 rfl) ?_
  refine rr_get C hN 0 (Nat.lt_of_lt_of_le (by decide) hNN) rfl rfl kw_X5_isOpen_X5 5 (by decide) (List.mem_of_getElem? (i := 1) rfl) (v := .ref (B 4)) rfl dX5_isOpen_1 ?_
  refine lv_aload_n hx hb dX5_isOpen_4 rfl (lv_at hl 0 rfl) ?_
  refine rr_get C hN 0 (Nat.lt_of_lt_of_le (by decide) hNN) rfl rfl kw_X5_isOpen_X5 13 (by decide) (List.mem_of_getElem? (i := 2) rfl) (v := .ref (B 11)) rfl dX5_isOpen_5 ?_
  refine lv_iload_n hx hb dX5_isOpen_8 rfl (lv_at hl 1 rfl) ?_
  refine rr_iald C hN 11 (Nat.lt_of_lt_of_le (by decide) hNN) rfl (by decide) q (by omega) hxq dX5_isOpen_9 ?_
  refine rr_iald C hN 4 (Nat.lt_of_lt_of_le (by decide) hNN) rfl (by decide) (mo_rd u 11 q) (Nat.lt_succ_of_le hof.2) hof.1 dX5_isOpen_10 ?_
  refine lv_iload_n hx hb dX5_isOpen_11 rfl (lv_at hl 1 rfl) ?_
  refine lv_icmp_ne (tgt := 19) hx hb dX5_isOpen_12 (by decide) (fun c_12 => ?_) (fun c_12 => ?_)
  · refine lv_iconst (v := 0) hx hb dX5_isOpen_19 (by decide) ?_
    exact rr_zret C hN dX5_isOpen_20 (by first | rfl | decide) (by subst_vars; first | rfl | (simp only [mo_op]; done) | (simp only [mo_op]; (repeat' split) <;> first | rfl | contradiction | simp_all)) rfl
  · refine lv_iconst (v := 1) hx hb dX5_isOpen_15 (by decide) ?_
    refine lv_goto (tgt := 20) hx hb dX5_isOpen_16 (by decide) ?_
    exact rr_zret C hN dX5_isOpen_20 (by first | rfl | decide) (by subst_vars; first | rfl | (simp only [mo_op]; done) | (simp only [mo_op]; (repeat' split) <;> first | rfl | contradiction | simp_all)) rfl
theorem mo_n8 {a : Int32} {n : Nat} (hn : n ≤ 8) (ha : a = nI n) (h : ¬ a = 8) : n < 8 := by
  rcases Nat.lt_or_ge n 8 with q | q
  · exact q
  · exact absurd (by rw [ha, show n = 8 by omega]; rfl) h
theorem mo_n8' {a : Int32} {n : Nat} (hn : n ≤ 8) (ha : a = nI n) (h : a = 8) : n = 8 := by
  rw [ha] at h
  exact (nI_eq (by omega) (by decide)).mp (h.trans (show (8 : Int32) = nI 8 from rfl))
set_option maxRecDepth 20000 in
theorem kw_X5_controller_X5 : ww_K wsX5_controller RX5 TX5 36 tyX5 := ⟨by decide +kernel, tyX5_ok, nmX5⟩
set_option maxHeartbeats 4000000 in
set_option maxRecDepth 100000 in
theorem ct_X5_controller (l : Launch) {D : va_G} {ca : Nat → ClassId} {B : Nat → Nat} {N n : Nat} {X : va_W} {u : ww_U} (x : Int32) {n0 : Nat} (hn8 : n0 ≤ 8) (hn0 : u 0 1 = nI n0) (hNN : 29 ≤ N)  : ww_M l yX5_controller wsX5_controller ({ frames := 0, cells := 0, slots := 0, locals := 0 } : Room) D ca B N n X u [.ref (B 0), .int x] (some (.int (mo_ctl n0 u x).2)) (mo_ctl n0 u x).1 := by
  refine ww_met (cc := cX5_controller) (maxL := 2) (ret := (some .int)) (by decide) rfl (Nat.le_of_ble_eq_true rfl) ?_
  intro p e s m args below meth c C hN ls hl
  have hl : lv_has ls 2 [(0, .ref (B 0)), (1, .int x)] := hl
  have hx := C.1.1
  have hb := C.1.2.1
  refine lv_aload_n hx hb dX5_controller_0 rfl (lv_at hl 0 rfl) ?_
  refine lv_iconst (v := 0) hx hb dX5_controller_1 (by decide) ?_
  refine rr_put C hN 0 (Nat.lt_of_lt_of_le (by decide) hNN) rfl rfl kw_X5_controller_X5 0 (by decide) (List.mem_of_getElem? (i := 1) rfl) rfl (x := 0) rfl rfl (Nat.le_of_ble_eq_true rfl) ((Eq.refl _).trans rfl) dX5_controller_2 (fun u1 eu1 H locs hN => ?_)
  refine lv_iload_n hx hb dX5_controller_5 rfl (lv_at hl 1 rfl) ?_
  refine lv_iconst (v := 1) hx hb dX5_controller_6 (by decide) ?_
  refine lv_icmp_lt (tgt := 16) hx hb dX5_controller_7 (by decide) (fun c_7 => ?_) (fun c_7 => ?_)
  · refine lv_bipush (v := (-2)) hx hb dX5_controller_16 (by decide) ?_
    exact rr_iret C hN dX5_controller_18 (by unfold mo_ctl; (first | rw [if_pos c_7] | rw [if_neg c_7, if_neg c_13])) (by unfold mo_ctl; subst_vars; (first | rw [if_pos c_7] | rw [if_neg c_7, if_neg c_13]); rfl)
  · refine lv_iload_n hx hb dX5_controller_10 rfl (lv_at hl 1 rfl) ?_
    refine lv_bipush (v := 127) hx hb dX5_controller_11 (by decide) ?_
    refine lv_icmp_le (tgt := 19) hx hb dX5_controller_13 (by decide) (fun c_13 => ?_) (fun c_13 => ?_)
    · refine lv_aload_n hx hb dX5_controller_19 rfl (lv_at hl 0 rfl) ?_
      refine rr_get C hN 0 (Nat.lt_of_lt_of_le (by decide) hNN) rfl rfl kw_X5_controller_X5 1 (by decide) (List.mem_of_getElem? (i := 2) rfl) (v := .int (u1 0 1)) rfl dX5_controller_20 ?_
      have hn0z : u1 0 1 = nI n0 := by rw [eu1, ww_up_nj (by decide)]; exact hn0
      refine lv_bipush (v := 8) hx hb dX5_controller_23 (by decide) ?_
      refine lv_icmp_ne (tgt := 31) hx hb dX5_controller_25 (by decide) (fun c_25 => ?_) (fun c_25 => ?_)
      · have hlt8 : n0 < 8 := mo_n8 hn8 hn0z c_25
        refine lv_aload_n hx hb dX5_controller_31 rfl (lv_at hl 0 rfl) ?_
        refine lv_dup hx hb dX5_controller_32 rfl ?_
        refine rr_get C hN 0 (Nat.lt_of_lt_of_le (by decide) hNN) rfl rfl kw_X5_controller_X5 1 (by decide) (List.mem_of_getElem? (i := 2) rfl) (v := .int (u1 0 1)) rfl dX5_controller_33 ?_
        refine lv_iconst (v := 1) hx hb dX5_controller_36 (by decide) ?_
        refine lv_iadd hx hb dX5_controller_37 ?_
        refine lv_topi (fun v2 ev2 => ?_)
        refine rr_put C hN 0 (Nat.lt_of_lt_of_le (by decide) hNN) rfl rfl kw_X5_controller_X5 1 (by decide) (List.mem_of_getElem? (i := 2) rfl) rfl (x := v2) rfl rfl (Nat.le_of_ble_eq_true rfl) ((Eq.refl _).trans rfl) dX5_controller_38 (fun u3 eu3 H locs hN => ?_)
        have hcn : u3 0 1 = nI (n0 + 1) := by rw [eu3, ww_up_self, ev2, hn0z]; exact nI_1 n0
        have hu3 : u3 = ww_up (mo_z u) 0 1 (nI (n0 + 1)) := by rw [eu3, ev2, hn0z, nI_1, eu1]; rfl
        refine lv_aload_n hx hb dX5_controller_41 rfl (lv_at hl 0 rfl) ?_
        refine rr_get C hN 0 (Nat.lt_of_lt_of_le (by decide) hNN) rfl rfl kw_X5_controller_X5 2 (by decide) (List.mem_of_getElem? (i := 3) rfl) (v := .ref (B 1)) rfl dX5_controller_42 ?_
        refine lv_aload_n hx hb dX5_controller_45 rfl (lv_at hl 0 rfl) ?_
        refine rr_get C hN 0 (Nat.lt_of_lt_of_le (by decide) hNN) rfl rfl kw_X5_controller_X5 1 (by decide) (List.mem_of_getElem? (i := 2) rfl) (v := .int (u3 0 1)) rfl dX5_controller_46 ?_
        refine lv_iload_n hx hb dX5_controller_49 rfl (lv_at hl 1 rfl) ?_
        refine rr_iast C hN 1 (Nat.lt_of_lt_of_le (by decide) hNN) (fun _ => rfl) (by decide) (n0 + 1) (by omega) hcn dX5_controller_50 (fun u4 eu4 H locs hN => ?_)
        refine lv_aload_n hx hb dX5_controller_51 rfl (lv_at hl 0 rfl) ?_
        refine rr_get C hN 0 (Nat.lt_of_lt_of_le (by decide) hNN) rfl rfl kw_X5_controller_X5 8 (by decide) (List.mem_of_getElem? (i := 4) rfl) (v := .ref (B 7)) rfl dX5_controller_52 ?_
        refine lv_aload_n hx hb dX5_controller_55 rfl (lv_at hl 0 rfl) ?_
        refine rr_get C hN 0 (Nat.lt_of_lt_of_le (by decide) hNN) rfl rfl kw_X5_controller_X5 1 (by decide) (List.mem_of_getElem? (i := 2) rfl) (v := .int (u4 0 1)) rfl dX5_controller_56 ?_
        refine lv_iconst (v := (-1)) hx hb dX5_controller_59 (by decide) ?_
        refine rr_iast C hN 7 (Nat.lt_of_lt_of_le (by decide) hNN) (fun _ => rfl) (by decide) (n0 + 1) (by omega) (by rw [eu4, ww_up_ne (by decide)]; exact hcn) dX5_controller_60 (fun u5 eu5 H locs hN => ?_)
        refine lv_aload_n hx hb dX5_controller_61 rfl (lv_at hl 0 rfl) ?_
        refine rr_get C hN 0 (Nat.lt_of_lt_of_le (by decide) hNN) rfl rfl kw_X5_controller_X5 1 (by decide) (List.mem_of_getElem? (i := 2) rfl) (v := .int (u5 0 1)) rfl dX5_controller_62 ?_
        exact rr_iret C hN dX5_controller_65 (by unfold mo_ctl; rw [if_neg c_7, if_pos c_13, if_neg (by omega), eu5, eu4, ww_up_ne (by decide), ww_up_ne (by decide), hcn]) (by unfold mo_ctl; rw [if_neg c_7, if_pos c_13, if_neg (by omega)]; rw [eu5, eu4, hu3])
      · refine lv_bipush (v := (-4)) hx hb dX5_controller_28 (by decide) ?_
        exact rr_iret C hN dX5_controller_30 (by unfold mo_ctl; rw [if_neg c_7, if_pos c_13, if_pos (mo_n8' hn8 hn0z c_25)]) (by unfold mo_ctl; rw [if_neg c_7, if_pos c_13, if_pos (mo_n8' hn8 hn0z c_25)]; subst_vars; rfl)
    · refine lv_bipush (v := (-2)) hx hb dX5_controller_16 (by decide) ?_
      exact rr_iret C hN dX5_controller_18 (by unfold mo_ctl; (first | rw [if_pos c_7] | rw [if_neg c_7, if_neg c_13])) (by unfold mo_ctl; subst_vars; (first | rw [if_pos c_7] | rw [if_neg c_7, if_neg c_13]); rfl)
theorem mo_g256 {a : Int32} {g : Nat} (hg : g ≤ 256) (ha : a = nI g) (h : ¬ a = 256) : g < 256 := by
  rcases Nat.lt_or_ge g 256 with q | q
  · exact q
  · exact absurd (by rw [ha, show g = 256 by omega]; rfl) h
theorem mo_g256' {a : Int32} {g : Nat} (hg : g ≤ 256) (ha : a = nI g) (h : a = 256) : g = 256 := by
  rw [ha] at h
  exact (nI_eq (by omega) (by decide)).mp (h.trans (show (256 : Int32) = nI 256 from rfl))
set_option maxRecDepth 20000 in
theorem kw_X5_octet_X5 : ww_K wsX5_octet RX5 TX5 36 tyX5 := ⟨by decide +kernel, tyX5_ok, nmX5⟩
set_option maxHeartbeats 4000000 in
set_option maxRecDepth 100000 in
theorem ct_X5_octet (l : Launch) {D : va_G} {ca : Nat → ClassId} {B : Nat → Nat} {N n : Nat} {X : va_W} {u : ww_U} (x : Int32) {g : Nat} (hg : g ≤ 256) (hge : u 0 22 = nI g) (hNN : 29 ≤ N)  : ww_M l yX5_octet wsX5_octet ({ frames := 0, cells := 0, slots := 0, locals := 0 } : Room) D ca B N n X u [.ref (B 0), .int x] none (mo_oct u x g) := by
  refine ww_met (cc := cX5_octet) (maxL := 2) (ret := none) (by decide) rfl (Nat.le_of_ble_eq_true rfl) ?_
  intro p e s m args below meth c C hN ls hl
  have hl : lv_has ls 2 [(0, .ref (B 0)), (1, .int x)] := hl
  have hx := C.1.1
  have hb := C.1.2.1
  refine lv_aload_n hx hb dX5_octet_0 rfl (lv_at hl 0 rfl) ?_
  refine lv_iconst (v := 0) hx hb dX5_octet_1 (by decide) ?_
  refine rr_put C hN 0 (Nat.lt_of_lt_of_le (by decide) hNN) rfl rfl kw_X5_octet_X5 0 (by decide) (List.mem_of_getElem? (i := 1) rfl) rfl (x := 0) rfl rfl (Nat.le_of_ble_eq_true rfl) ((Eq.refl _).trans rfl) dX5_octet_2 (fun u1 eu1 H locs hN => ?_)
  refine lv_aload_n hx hb dX5_octet_5 rfl (lv_at hl 0 rfl) ?_
  refine rr_get C hN 0 (Nat.lt_of_lt_of_le (by decide) hNN) rfl rfl kw_X5_octet_X5 22 (by decide) (List.mem_of_getElem? (i := 2) rfl) (v := .int (u1 0 22)) rfl dX5_octet_6 ?_
  have hge1 : u1 0 22 = nI g := by rw [eu1, ww_up_nj (by decide)]; exact hge
  refine lv_sipush (v := 256) hx hb dX5_octet_9 (by decide) ?_
  refine lv_icmp_ne (tgt := 16) hx hb dX5_octet_12 (by decide) (fun c_12 => ?_) (fun c_12 => ?_)
  · have hlt : g < 256 := mo_g256 hg hge1 c_12
    refine lv_aload_n hx hb dX5_octet_16 rfl (lv_at hl 0 rfl) ?_
    refine rr_get C hN 0 (Nat.lt_of_lt_of_le (by decide) hNN) rfl rfl kw_X5_octet_X5 23 (by decide) (List.mem_of_getElem? (i := 3) rfl) (v := .ref (B 20)) rfl dX5_octet_17 ?_
    refine lv_aload_n hx hb dX5_octet_20 rfl (lv_at hl 0 rfl) ?_
    refine rr_get C hN 0 (Nat.lt_of_lt_of_le (by decide) hNN) rfl rfl kw_X5_octet_X5 22 (by decide) (List.mem_of_getElem? (i := 2) rfl) (v := .int (u1 0 22)) rfl dX5_octet_21 ?_
    refine lv_iload_n hx hb dX5_octet_24 rfl (lv_at hl 1 rfl) ?_
    refine lv_sipush (v := 255) hx hb dX5_octet_25 (by decide) ?_
    refine lv_iand hx hb dX5_octet_28 ?_
    refine lv_topi (fun v2 ev2 => ?_)
    refine rr_iast C hN 20 (Nat.lt_of_lt_of_le (by decide) hNN) (fun _ => rfl) (by decide) g hlt hge1 dX5_octet_29 (fun u3 eu3 H locs hN => ?_)
    refine lv_aload_n hx hb dX5_octet_30 rfl (lv_at hl 0 rfl) ?_
    refine lv_dup hx hb dX5_octet_31 rfl ?_
    refine rr_get C hN 0 (Nat.lt_of_lt_of_le (by decide) hNN) rfl rfl kw_X5_octet_X5 22 (by decide) (List.mem_of_getElem? (i := 2) rfl) (v := .int (u3 0 22)) rfl dX5_octet_32 ?_
    refine lv_iconst (v := 1) hx hb dX5_octet_35 (by decide) ?_
    refine lv_iadd hx hb dX5_octet_36 ?_
    refine lv_topi (fun v4 ev4 => ?_)
    refine rr_put C hN 0 (Nat.lt_of_lt_of_le (by decide) hNN) rfl rfl kw_X5_octet_X5 22 (by decide) (List.mem_of_getElem? (i := 2) rfl) rfl (x := v4) rfl rfl (Nat.le_of_ble_eq_true rfl) ((Eq.refl _).trans rfl) dX5_octet_37 (fun u5 eu5 H locs hN => ?_)
    exact rr_vret C hN dX5_octet_40 rfl (by unfold mo_oct; rw [if_neg (by omega), eu5, ev4, eu3, ev2, ww_up_ne (by decide), hge1, nI_1, eu1]; rfl)
  · exact rr_vret C hN dX5_octet_15 rfl (by unfold mo_oct; rw [if_pos (mo_g256' hg hge1 c_12)]; subst_vars; rfl)
set_option maxHeartbeats 4000000 in
set_option maxRecDepth 100000 in
theorem ct_X5_counter0 (l : Launch) {D : va_G} {ca : Nat → ClassId} {B : Nat → Nat} {N n : Nat} {X : va_W} {u : ww_U} {x : Int32} (h : x < 1 ∨ u 0 1 < x) (hNN : 29 ≤ N)  : ww_M l yX5_counter wsX5_counter ({ frames := 1, cells := 0, slots := 0, locals := 21 } : Room) D ca B N n X u [.ref (B 0), .int x] (some (.int (-1))) (mo_z u) := by
  refine ww_met (cc := cX5_counter) (maxL := 2) (ret := (some .int)) (by decide) rfl (Nat.le_of_ble_eq_true rfl) ?_
  intro p e s m args below meth c C hN ls hl
  have hl : lv_has ls 2 [(0, .ref (B 0)), (1, .int x)] := hl
  have hx := C.1.1
  have hb := C.1.2.1
  refine lv_aload_n hx hb dX5_counter_0 rfl (lv_at hl 0 rfl) ?_
  refine lv_iload_n hx hb dX5_counter_1 rfl (lv_at hl 1 rfl) ?_
  refine rr_callV (As := [.int x]) C hN 0 (Nat.lt_of_lt_of_le (by decide) hNN) rfl rfl rfl (ct_X5_none l x hNN) gX5_counter_X5_none rfl rfl rfl 1 (by decide +kernel) ⟨Nat.le_of_ble_eq_true rfl, Nat.le_of_ble_eq_true rfl⟩ rfl hl.1 rfl (Nat.le_of_ble_eq_true rfl) ⟨Nat.zero_le _, Nat.zero_le _⟩ dX5_counter_2 (fun H locs hN => ?_)
  refine lv_topi (fun v1 ev1 => ?_)
  refine lv_if_eq (tgt := 12) hx hb dX5_counter_5 (by decide) (fun c_5 => absurd c_5 (by rw [ev1, mo_none_1 h]; decide)) (fun c_5 => ?_)
  refine lv_iconst (v := (-1)) hx hb dX5_counter_8 (by decide) ?_
  refine lv_goto (tgt := 18) hx hb dX5_counter_9 (by decide) ?_
  exact rr_iret C hN dX5_counter_18 rfl rfl
set_option maxRecDepth 20000 in
theorem kw_X5_counter_X5 : ww_K wsX5_counter RX5 TX5 36 tyX5 := ⟨by decide +kernel, tyX5_ok, nmX5⟩
set_option maxHeartbeats 4000000 in
set_option maxRecDepth 100000 in
theorem ct_X5_counter (l : Launch) {D : va_G} {ca : Nat → ClassId} {B : Nat → Nat} {N n : Nat} {X : va_W} {u : ww_U} {x : Int32} {q : Nat} (hq1 : 1 ≤ q) (hq8 : q ≤ 8) (hxq : x = nI q) (hxc : x ≤ u 0 1) (hNN : 29 ≤ N)  : ww_M l yX5_counter wsX5_counter ({ frames := 1, cells := 0, slots := 0, locals := 21 } : Room) D ca B N n X u [.ref (B 0), .int x] (some (.int (u 3 q))) (mo_z u) := by
  refine ww_met (cc := cX5_counter) (maxL := 2) (ret := (some .int)) (by decide) rfl (Nat.le_of_ble_eq_true rfl) ?_
  intro p e s m args below meth c C hN ls hl
  have hl : lv_has ls 2 [(0, .ref (B 0)), (1, .int x)] := hl
  have hx := C.1.1
  have hb := C.1.2.1
  have hx1 : ¬ x < 1 := by rw [hxq]; exact (show ¬ nI q < nI 1 from nI_nlt (by omega) (by omega))
  refine lv_aload_n hx hb dX5_counter_0 rfl (lv_at hl 0 rfl) ?_
  refine lv_iload_n hx hb dX5_counter_1 rfl (lv_at hl 1 rfl) ?_
  refine rr_callV (As := [.int x]) C hN 0 (Nat.lt_of_lt_of_le (by decide) hNN) rfl rfl rfl (ct_X5_none l x hNN) gX5_counter_X5_none rfl rfl rfl 1 (by decide +kernel) ⟨Nat.le_of_ble_eq_true rfl, Nat.le_of_ble_eq_true rfl⟩ rfl hl.1 rfl (Nat.le_of_ble_eq_true rfl) ⟨Nat.zero_le _, Nat.zero_le _⟩ dX5_counter_2 (fun H locs hN => ?_)
  refine lv_topi (fun v1 ev1 => ?_)
  refine lv_if_eq (tgt := 12) hx hb dX5_counter_5 (by decide) (fun c_5 => ?_) (fun c_5 => absurd c_5 (fun h => h (by rw [ev1]; exact mo_none_0 hx1 hxc)))
  refine lv_aload_n hx hb dX5_counter_12 rfl (lv_at hl 0 rfl) ?_
  refine rr_get C hN 0 (Nat.lt_of_lt_of_le (by decide) hNN) rfl rfl kw_X5_counter_X5 4 (by decide) (List.mem_of_getElem? (i := 1) rfl) (v := .ref (B 3)) rfl dX5_counter_13 ?_
  refine lv_iload_n hx hb dX5_counter_16 rfl (lv_at hl 1 rfl) ?_
  refine rr_iald C hN 3 (Nat.lt_of_lt_of_le (by decide) hNN) rfl (by decide) q (by omega) hxq dX5_counter_17 ?_
  exact rr_iret C hN dX5_counter_18 rfl rfl
set_option maxHeartbeats 4000000 in
set_option maxRecDepth 100000 in
theorem ct_X5_silent0 (l : Launch) {D : va_G} {ca : Nat → ClassId} {B : Nat → Nat} {N n : Nat} {X : va_W} {u : ww_U} {x : Int32} (h : x < 1 ∨ u 0 1 < x) (z : Int32) (hNN : 29 ≤ N)  : ww_M l yX5_silent wsX5_silent ({ frames := 1, cells := 0, slots := 0, locals := 21 } : Room) D ca B N n X u [.ref (B 0), .int x, .int z] (some (.int (-1))) (mo_z u) := by
  refine ww_met (cc := cX5_silent) (maxL := 4) (ret := (some .int)) (by decide) rfl (Nat.le_of_ble_eq_true rfl) ?_
  intro p e s m args below meth c C hN ls hl
  have hl : lv_has ls 4 [(0, .ref (B 0)), (1, .int x), (2, .int z)] := hl
  have hx := C.1.1
  have hb := C.1.2.1
  refine lv_aload_n hx hb dX5_silent_0 rfl (lv_at hl 0 rfl) ?_
  refine lv_iload_n hx hb dX5_silent_1 rfl (lv_at hl 1 rfl) ?_
  refine rr_callV (As := [.int x]) C hN 0 (Nat.lt_of_lt_of_le (by decide) hNN) rfl rfl rfl (ct_X5_none l x hNN) gX5_silent_X5_none rfl rfl rfl 1 (by decide +kernel) ⟨Nat.le_of_ble_eq_true rfl, Nat.le_of_ble_eq_true rfl⟩ rfl hl.1 rfl (Nat.le_of_ble_eq_true rfl) ⟨Nat.zero_le _, Nat.zero_le _⟩ dX5_silent_2 (fun H locs hN => ?_)
  refine lv_topi (fun v1 ev1 => ?_)
  refine lv_if_eq (tgt := 10) hx hb dX5_silent_5 (by decide) (fun c_5 => absurd c_5 (by rw [ev1, mo_none_1 h]; decide)) (fun c_5 => ?_)
  refine lv_iconst (v := (-1)) hx hb dX5_silent_8 (by decide) ?_
  exact rr_iret C hN dX5_silent_9 rfl rfl
set_option maxRecDepth 20000 in
theorem kw_X5_silent_X5 : ww_K wsX5_silent RX5 TX5 36 tyX5 := ⟨by decide +kernel, tyX5_ok, nmX5⟩
set_option maxHeartbeats 4000000 in
set_option maxRecDepth 100000 in
theorem ct_X5_silent (l : Launch) {D : va_G} {ca : Nat → ClassId} {B : Nat → Nat} {N n : Nat} {X : va_W} {u : ww_U} {x : Int32} {q : Nat} (hq1 : 1 ≤ q) (hq8 : q ≤ 8) (hxq : x = nI q) (hxc : x ≤ u 0 1) (z : Int32) (hz : z = 0 ∨ z = 1) (hNN : 29 ≤ N)  : ww_M l yX5_silent wsX5_silent ({ frames := 1, cells := 0, slots := 0, locals := 21 } : Room) D ca B N n X u [.ref (B 0), .int x, .int z] (some (.int (if u 6 q = z then 0 else 1))) (ww_up (mo_z u) 6 q z) := by
  refine ww_met (cc := cX5_silent) (maxL := 4) (ret := (some .int)) (by decide) rfl (Nat.le_of_ble_eq_true rfl) ?_
  intro p e s m args below meth c C hN ls hl
  have hl : lv_has ls 4 [(0, .ref (B 0)), (1, .int x), (2, .int z)] := hl
  have hx := C.1.1
  have hb := C.1.2.1
  have hx1 : ¬ x < 1 := by rw [hxq]; exact (show ¬ nI q < nI 1 from nI_nlt (by omega) (by omega))
  refine lv_aload_n hx hb dX5_silent_0 rfl (lv_at hl 0 rfl) ?_
  refine lv_iload_n hx hb dX5_silent_1 rfl (lv_at hl 1 rfl) ?_
  refine rr_callV (As := [.int x]) C hN 0 (Nat.lt_of_lt_of_le (by decide) hNN) rfl rfl rfl (ct_X5_none l x hNN) gX5_silent_X5_none rfl rfl rfl 1 (by decide +kernel) ⟨Nat.le_of_ble_eq_true rfl, Nat.le_of_ble_eq_true rfl⟩ rfl hl.1 rfl (Nat.le_of_ble_eq_true rfl) ⟨Nat.zero_le _, Nat.zero_le _⟩ dX5_silent_2 (fun H locs hN => ?_)
  refine lv_topi (fun v1 ev1 => ?_)
  refine lv_if_eq (tgt := 10) hx hb dX5_silent_5 (by decide) (fun c_5 => ?_) (fun c_5 => absurd c_5 (fun h => h (by rw [ev1]; exact mo_none_0 hx1 hxc)))
  refine lv_aload_n hx hb dX5_silent_10 rfl (lv_at hl 0 rfl) ?_
  refine rr_get C hN 0 (Nat.lt_of_lt_of_le (by decide) hNN) rfl rfl kw_X5_silent_X5 7 (by decide) (List.mem_of_getElem? (i := 1) rfl) (v := .ref (B 6)) rfl dX5_silent_11 ?_
  refine lv_iload_n hx hb dX5_silent_14 rfl (lv_at hl 1 rfl) ?_
  refine rr_zald C hN 6 (Nat.lt_of_lt_of_le (by decide) hNN) rfl (by decide) q (by omega) hxq dX5_silent_15 ?_
  refine lv_istore_n (lv' := [(3, .int ((mo_z u) 6 q)), (0, .ref (B 0)), (1, .int x), (2, .int z)]) hx hb dX5_silent_16 rfl hl (by decide) rfl (fun ls hl => ?_)
  refine lv_aload_n hx hb dX5_silent_17 rfl (lv_at hl 1 rfl) ?_
  refine rr_get C hN 0 (Nat.lt_of_lt_of_le (by decide) hNN) rfl rfl kw_X5_silent_X5 7 (by decide) (List.mem_of_getElem? (i := 1) rfl) (v := .ref (B 6)) rfl dX5_silent_18 ?_
  refine lv_iload_n hx hb dX5_silent_21 rfl (lv_at hl 2 rfl) ?_
  refine lv_iload_n hx hb dX5_silent_22 rfl (lv_at hl 3 rfl) ?_
  refine rr_zast C hN 6 (Nat.lt_of_lt_of_le (by decide) hNN) (fun _ => rfl) (by decide) q (by omega) hxq dX5_silent_23 (fun u2 eu2 H locs hN => ?_)
  refine lv_iload_n hx hb dX5_silent_24 rfl (lv_at hl 0 rfl) ?_
  refine lv_iload_n hx hb dX5_silent_25 rfl (lv_at hl 3 rfl) ?_
  refine lv_icmp_ne (tgt := 33) hx hb dX5_silent_26 (by decide) (fun c_26 => ?_) (fun c_26 => ?_)
  · refine lv_iconst (v := 1) hx hb dX5_silent_33 (by decide) ?_
    exact rr_iret C hN dX5_silent_34 (by rw [if_neg (by exact c_26)]) (by rw [eu2, show vp_nar .boolean z = z by rcases hz with rfl | rfl <;> rfl])
  · refine lv_iconst (v := 0) hx hb dX5_silent_29 (by decide) ?_
    refine lv_goto (tgt := 34) hx hb dX5_silent_30 (by decide) ?_
    exact rr_iret C hN dX5_silent_34 (by rw [if_pos (by exact c_26)]) (by rw [eu2, show vp_nar .boolean z = z by rcases hz with rfl | rfl <;> rfl])
set_option maxHeartbeats 4000000 in
set_option maxRecDepth 100000 in
theorem ct_X5_block0 (l : Launch) {D : va_G} {ca : Nat → ClassId} {B : Nat → Nat} {N n : Nat} {X : va_W} {u : ww_U} {x : Int32} (h : x < 1 ∨ u 0 1 < x) (y z : Int32) (hNN : 29 ≤ N)  : ww_M l yX5_block wsX5_block ({ frames := 1, cells := 0, slots := 0, locals := 21 } : Room) D ca B N n X u [.ref (B 0), .int x, .int y, .int z] (some (.int (-1))) (mo_z u) := by
  refine ww_met (cc := cX5_block) (maxL := 4) (ret := (some .int)) (by decide) rfl (Nat.le_of_ble_eq_true rfl) ?_
  intro p e s m args below meth c C hN ls hl
  have hl : lv_has ls 4 [(0, .ref (B 0)), (1, .int x), (2, .int y), (3, .int z)] := hl
  have hx := C.1.1
  have hb := C.1.2.1
  refine lv_aload_n hx hb dX5_block_0 rfl (lv_at hl 0 rfl) ?_
  refine lv_iload_n hx hb dX5_block_1 rfl (lv_at hl 1 rfl) ?_
  refine rr_callV (As := [.int x]) C hN 0 (Nat.lt_of_lt_of_le (by decide) hNN) rfl rfl rfl (ct_X5_none l x hNN) gX5_block_X5_none rfl rfl rfl 1 (by decide +kernel) ⟨Nat.le_of_ble_eq_true rfl, Nat.le_of_ble_eq_true rfl⟩ rfl hl.1 rfl (Nat.le_of_ble_eq_true rfl) ⟨Nat.zero_le _, Nat.zero_le _⟩ dX5_block_2 (fun H locs hN => ?_)
  refine lv_topi (fun v1 ev1 => ?_)
  refine lv_if_eq (tgt := 10) hx hb dX5_block_5 (by decide) (fun c_5 => absurd c_5 (by rw [ev1, mo_none_1 h]; decide)) (fun c_5 => ?_)
  refine lv_iconst (v := (-1)) hx hb dX5_block_8 (by decide) ?_
  exact rr_iret C hN dX5_block_9 rfl rfl
set_option maxRecDepth 20000 in
theorem kw_X5_block_X5 : ww_K wsX5_block RX5 TX5 36 tyX5 := ⟨by decide +kernel, tyX5_ok, nmX5⟩
set_option maxHeartbeats 4000000 in
set_option maxRecDepth 100000 in
theorem ct_X5_block (l : Launch) {D : va_G} {ca : Nat → ClassId} {B : Nat → Nat} {N n : Nat} {X : va_W} {u : ww_U} {x : Int32} {q : Nat} (hq1 : 1 ≤ q) (hq8 : q ≤ 8) (hxq : x = nI q) (hxc : x ≤ u 0 1) (y z : Int32) (hNN : 29 ≤ N)  : ww_M l yX5_block wsX5_block ({ frames := 1, cells := 0, slots := 0, locals := 21 } : Room) D ca B N n X u [.ref (B 0), .int x, .int y, .int z] (some (.int (mo_block u q y z).2)) (mo_block u q y z).1 := by
  refine ww_met (cc := cX5_block) (maxL := 4) (ret := (some .int)) (by decide) rfl (Nat.le_of_ble_eq_true rfl) ?_
  intro p e s m args below meth c C hN ls hl
  have hl : lv_has ls 4 [(0, .ref (B 0)), (1, .int x), (2, .int y), (3, .int z)] := hl
  have hx := C.1.1
  have hb := C.1.2.1
  have hx1 : ¬ x < 1 := by rw [hxq]; exact (show ¬ nI q < nI 1 from nI_nlt (by omega) (by omega))
  refine lv_aload_n hx hb dX5_block_0 rfl (lv_at hl 0 rfl) ?_
  refine lv_iload_n hx hb dX5_block_1 rfl (lv_at hl 1 rfl) ?_
  refine rr_callV (As := [.int x]) C hN 0 (Nat.lt_of_lt_of_le (by decide) hNN) rfl rfl rfl (ct_X5_none l x hNN) gX5_block_X5_none rfl rfl rfl 1 (by decide +kernel) ⟨Nat.le_of_ble_eq_true rfl, Nat.le_of_ble_eq_true rfl⟩ rfl hl.1 rfl (Nat.le_of_ble_eq_true rfl) ⟨Nat.zero_le _, Nat.zero_le _⟩ dX5_block_2 (fun H locs hN => ?_)
  refine lv_topi (fun v1 ev1 => ?_)
  refine lv_if_eq (tgt := 10) hx hb dX5_block_5 (by decide) (fun c_5 => ?_) (fun c_5 => absurd c_5 (fun h => h (by rw [ev1]; exact mo_none_0 hx1 hxc)))
  refine lv_iload_n hx hb dX5_block_10 rfl (lv_at hl 2 rfl) ?_
  refine lv_if_lt (tgt := 24) hx hb dX5_block_11 (by decide) (fun c_11 => ?_) (fun c_11 => ?_)
  · refine lv_bipush (v := (-2)) hx hb dX5_block_24 (by decide) ?_
    exact rr_iret C hN dX5_block_26 (by subst_vars; first | rfl | (simp only [mo_block]; done) | (simp only [mo_block]; (repeat' split) <;> first | rfl | contradiction | simp_all)) (by subst_vars; first | rfl | (simp only [mo_block]; done) | (simp only [mo_block]; (repeat' split) <;> first | rfl | contradiction | simp_all))
  · refine lv_iload_n hx hb dX5_block_14 rfl (lv_at hl 2 rfl) ?_
    refine lv_bipush (v := 15) hx hb dX5_block_15 (by decide) ?_
    refine lv_icmp_gt (tgt := 24) hx hb dX5_block_17 (by decide) (fun c_17 => ?_) (fun c_17 => ?_)
    · refine lv_bipush (v := (-2)) hx hb dX5_block_24 (by decide) ?_
      exact rr_iret C hN dX5_block_26 (by subst_vars; first | rfl | (simp only [mo_block]; done) | (simp only [mo_block]; (repeat' split) <;> first | rfl | contradiction | simp_all)) (by subst_vars; first | rfl | (simp only [mo_block]; done) | (simp only [mo_block]; (repeat' split) <;> first | rfl | contradiction | simp_all))
    · refine lv_iload_n hx hb dX5_block_20 rfl (lv_at hl 3 rfl) ?_
      refine lv_if_ne (tgt := 27) hx hb dX5_block_21 (by decide) (fun c_21 => ?_) (fun c_21 => ?_)
      · refine lv_aload_n hx hb dX5_block_27 rfl (lv_at hl 0 rfl) ?_
        refine rr_get C hN 0 (Nat.lt_of_lt_of_le (by decide) hNN) rfl rfl kw_X5_block_X5 8 (by decide) (List.mem_of_getElem? (i := 1) rfl) (v := .ref (B 7)) rfl dX5_block_28 ?_
        refine lv_iload_n hx hb dX5_block_31 rfl (lv_at hl 1 rfl) ?_
        refine lv_iload_n hx hb dX5_block_32 rfl (lv_at hl 2 rfl) ?_
        refine rr_iast C hN 7 (Nat.lt_of_lt_of_le (by decide) hNN) (fun _ => rfl) (by decide) q (by omega) hxq dX5_block_33 (fun u2 eu2 H locs hN => ?_)
        refine lv_aload_n hx hb dX5_block_34 rfl (lv_at hl 0 rfl) ?_
        refine rr_get C hN 0 (Nat.lt_of_lt_of_le (by decide) hNN) rfl rfl kw_X5_block_X5 9 (by decide) (List.mem_of_getElem? (i := 2) rfl) (v := .ref (B 8)) rfl dX5_block_35 ?_
        refine lv_iload_n hx hb dX5_block_38 rfl (lv_at hl 1 rfl) ?_
        refine lv_iload_n hx hb dX5_block_39 rfl (lv_at hl 3 rfl) ?_
        refine lv_sipush (v := 255) hx hb dX5_block_40 (by decide) ?_
        refine lv_iand hx hb dX5_block_43 ?_
        refine lv_topi (fun v3 ev3 => ?_)
        refine rr_iast C hN 8 (Nat.lt_of_lt_of_le (by decide) hNN) (fun _ => rfl) (by decide) q (by omega) hxq dX5_block_44 (fun u4 eu4 H locs hN => ?_)
        refine lv_iconst (v := 1) hx hb dX5_block_45 (by decide) ?_
        exact rr_iret C hN dX5_block_46 (by subst_vars; first | rfl | (simp only [mo_block]; done) | (simp only [mo_block]; (repeat' split) <;> first | rfl | contradiction | simp_all)) (by subst_vars; first | rfl | (simp only [mo_block]; done) | (simp only [mo_block]; (repeat' split) <;> first | rfl | contradiction | simp_all))
      · refine lv_bipush (v := (-2)) hx hb dX5_block_24 (by decide) ?_
        exact rr_iret C hN dX5_block_26 (by subst_vars; first | rfl | (simp only [mo_block]; done) | (simp only [mo_block]; (repeat' split) <;> first | rfl | contradiction | simp_all)) (by subst_vars; first | rfl | (simp only [mo_block]; done) | (simp only [mo_block]; (repeat' split) <;> first | rfl | contradiction | simp_all))
set_option maxRecDepth 20000 in
theorem kw_X5_condition_X5 : ww_K wsX5_condition RX5 TX5 36 tyX5 := ⟨by decide +kernel, tyX5_ok, nmX5⟩
set_option maxHeartbeats 4000000 in
set_option maxRecDepth 100000 in
theorem ct_X5_condition (l : Launch) {D : va_G} {ca : Nat → ClassId} {B : Nat → Nat} {N n : Nat} {X : va_W} {u : ww_U} (x z : Int32) (hNN : 29 ≤ N)  : ww_M l yX5_condition wsX5_condition ({ frames := 1, cells := 0, slots := 0, locals := 20 } : Room) D ca B N n X u [.ref (B 0), .int x, .int z] (some (.int (mo_cond u x z).2)) (mo_cond u x z).1 := by
  refine ww_met (cc := cX5_condition) (maxL := 3) (ret := (some .int)) (by decide) rfl (Nat.le_of_ble_eq_true rfl) ?_
  intro p e s m args below meth c C hN ls hl
  have hl : lv_has ls 3 [(0, .ref (B 0)), (1, .int x), (2, .int z)] := hl
  have hx := C.1.1
  have hb := C.1.2.1
  refine lv_aload_n hx hb dX5_condition_0 rfl (lv_at hl 0 rfl) ?_
  refine lv_iconst (v := 0) hx hb dX5_condition_1 (by decide) ?_
  refine rr_put C hN 0 (Nat.lt_of_lt_of_le (by decide) hNN) rfl rfl kw_X5_condition_X5 0 (by decide) (List.mem_of_getElem? (i := 1) rfl) rfl (x := 0) rfl rfl (Nat.le_of_ble_eq_true rfl) ((Eq.refl _).trans rfl) dX5_condition_2 (fun u1 eu1 H locs hN => ?_)
  refine lv_iload_n hx hb dX5_condition_5 rfl (lv_at hl 1 rfl) ?_
  refine lv_if_lt (tgt := 14) hx hb dX5_condition_6 (by decide) (fun c_6 => ?_) (fun c_6 => ?_)
  · refine lv_iconst (v := (-1)) hx hb dX5_condition_14 (by decide) ?_
    exact rr_iret C hN dX5_condition_15 (by unfold mo_cond; (first | rw [if_pos c_6] | rw [if_neg c_6, if_neg c_11]); try (subst_vars; rfl)) (by unfold mo_cond; (first | rw [if_pos c_6] | rw [if_neg c_6, if_neg c_11]); try (subst_vars; rfl))
  · refine lv_iload_n hx hb dX5_condition_9 rfl (lv_at hl 1 rfl) ?_
    refine lv_iconst (v := 1) hx hb dX5_condition_10 (by decide) ?_
    refine lv_icmp_le (tgt := 16) hx hb dX5_condition_11 (by decide) (fun c_11 => ?_) (fun c_11 => ?_)
    · refine lv_iload_n hx hb dX5_condition_16 rfl (lv_at hl 1 rfl) ?_
      refine lv_if_ne (tgt := 36) hx hb dX5_condition_17 (by decide) (fun c_17 => ?_) (fun c_17 => ?_)
      · refine lv_aload_n hx hb dX5_condition_36 rfl (lv_at hl 0 rfl) ?_
        refine lv_iload_n hx hb dX5_condition_37 rfl (lv_at hl 2 rfl) ?_
        refine lv_if_ne (tgt := 45) hx hb dX5_condition_38 (by decide) (fun c_38 => ?_) (fun c_38 => ?_)
        · refine lv_iconst (v := 0) hx hb dX5_condition_45 (by decide) ?_
          refine rr_put C hN 0 (Nat.lt_of_lt_of_le (by decide) hNN) rfl rfl kw_X5_condition_X5 27 (by decide) (List.mem_of_getElem? (i := 3) rfl) rfl (x := 0) (by decide) (by decide) (Nat.le_of_ble_eq_true rfl) ((Eq.refl _).trans rfl) dX5_condition_46 (fun u2 eu2 H locs hN => ?_)
          have hU : u2 = ww_up (mo_z u) 0 27 (mo_neg z) := by rw [eu2]; unfold mo_neg; (first | rw [if_pos c_38] | rw [if_neg c_38]); rw [eu1]; rfl
          refine lv_aload_n hx hb dX5_condition_49 rfl (lv_at hl 0 rfl) ?_
          refine rr_callV (As := []) C hN 0 (Nat.lt_of_lt_of_le (by decide) hNN) rfl rfl rfl (ct_X5_hold l hNN) gX5_condition_X5_hold rfl rfl rfl 0 (by decide +kernel) ⟨Nat.le_of_ble_eq_true rfl, Nat.le_of_ble_eq_true rfl⟩ rfl hl.1 rfl (Nat.le_of_ble_eq_true rfl) ⟨Nat.zero_le _, Nat.zero_le _⟩ dX5_condition_50 (fun H locs hN => ?_)
          refine lv_topi (fun v3 ev3 => ?_)
          refine lv_if_eq (tgt := 60) hx hb dX5_condition_53 (by decide) (fun c_53 => ?_) (fun c_53 => ?_)
          · refine lv_iconst (v := 0) hx hb dX5_condition_60 (by decide) ?_
            exact rr_iret C hN dX5_condition_61 (by rw [ev3, hU] at c_53; unfold mo_cond; rw [if_neg c_6, if_pos c_11]; (first | rw [if_pos c_17] | rw [if_neg c_17]); first | exact congrArg (fun q => some (Value.int q)) c_53 | exact congrArg (fun q => some (Value.int q)) (mo_ho_1 c_53)) (by unfold mo_cond; rw [if_neg c_6, if_pos c_11]; (first | rw [if_pos c_17] | rw [if_neg c_17]); exact hU.symm)
          · refine lv_iconst (v := 1) hx hb dX5_condition_56 (by decide) ?_
            refine lv_goto (tgt := 61) hx hb dX5_condition_57 (by decide) ?_
            exact rr_iret C hN dX5_condition_61 (by rw [ev3, hU] at c_53; unfold mo_cond; rw [if_neg c_6, if_pos c_11]; (first | rw [if_pos c_17] | rw [if_neg c_17]); first | exact congrArg (fun q => some (Value.int q)) c_53 | exact congrArg (fun q => some (Value.int q)) (mo_ho_1 c_53)) (by unfold mo_cond; rw [if_neg c_6, if_pos c_11]; (first | rw [if_pos c_17] | rw [if_neg c_17]); exact hU.symm)
        · refine lv_iconst (v := 1) hx hb dX5_condition_41 (by decide) ?_
          refine lv_goto (tgt := 46) hx hb dX5_condition_42 (by decide) ?_
          refine rr_put C hN 0 (Nat.lt_of_lt_of_le (by decide) hNN) rfl rfl kw_X5_condition_X5 27 (by decide) (List.mem_of_getElem? (i := 3) rfl) rfl (x := 1) (by decide) (by decide) (Nat.le_of_ble_eq_true rfl) ((Eq.refl _).trans rfl) dX5_condition_46 (fun u4 eu4 H locs hN => ?_)
          have hU : u4 = ww_up (mo_z u) 0 27 (mo_neg z) := by rw [eu4]; unfold mo_neg; (first | rw [if_pos c_38] | rw [if_neg c_38]); rw [eu1]; rfl
          refine lv_aload_n hx hb dX5_condition_49 rfl (lv_at hl 0 rfl) ?_
          refine rr_callV (As := []) C hN 0 (Nat.lt_of_lt_of_le (by decide) hNN) rfl rfl rfl (ct_X5_hold l hNN) gX5_condition_X5_hold rfl rfl rfl 0 (by decide +kernel) ⟨Nat.le_of_ble_eq_true rfl, Nat.le_of_ble_eq_true rfl⟩ rfl hl.1 rfl (Nat.le_of_ble_eq_true rfl) ⟨Nat.zero_le _, Nat.zero_le _⟩ dX5_condition_50 (fun H locs hN => ?_)
          refine lv_topi (fun v5 ev5 => ?_)
          refine lv_if_eq (tgt := 60) hx hb dX5_condition_53 (by decide) (fun c_53 => ?_) (fun c_53 => ?_)
          · refine lv_iconst (v := 0) hx hb dX5_condition_60 (by decide) ?_
            exact rr_iret C hN dX5_condition_61 (by rw [ev5, hU] at c_53; unfold mo_cond; rw [if_neg c_6, if_pos c_11]; (first | rw [if_pos c_17] | rw [if_neg c_17]); first | exact congrArg (fun q => some (Value.int q)) c_53 | exact congrArg (fun q => some (Value.int q)) (mo_ho_1 c_53)) (by unfold mo_cond; rw [if_neg c_6, if_pos c_11]; (first | rw [if_pos c_17] | rw [if_neg c_17]); exact hU.symm)
          · refine lv_iconst (v := 1) hx hb dX5_condition_56 (by decide) ?_
            refine lv_goto (tgt := 61) hx hb dX5_condition_57 (by decide) ?_
            exact rr_iret C hN dX5_condition_61 (by rw [ev5, hU] at c_53; unfold mo_cond; rw [if_neg c_6, if_pos c_11]; (first | rw [if_pos c_17] | rw [if_neg c_17]); first | exact congrArg (fun q => some (Value.int q)) c_53 | exact congrArg (fun q => some (Value.int q)) (mo_ho_1 c_53)) (by unfold mo_cond; rw [if_neg c_6, if_pos c_11]; (first | rw [if_pos c_17] | rw [if_neg c_17]); exact hU.symm)
      · refine lv_aload_n hx hb dX5_condition_20 rfl (lv_at hl 0 rfl) ?_
        refine lv_iload_n hx hb dX5_condition_21 rfl (lv_at hl 2 rfl) ?_
        refine lv_if_ne (tgt := 29) hx hb dX5_condition_22 (by decide) (fun c_22 => ?_) (fun c_22 => ?_)
        · refine lv_iconst (v := 0) hx hb dX5_condition_29 (by decide) ?_
          refine rr_put C hN 0 (Nat.lt_of_lt_of_le (by decide) hNN) rfl rfl kw_X5_condition_X5 26 (by decide) (List.mem_of_getElem? (i := 2) rfl) rfl (x := 0) (by decide) (by decide) (Nat.le_of_ble_eq_true rfl) ((Eq.refl _).trans rfl) dX5_condition_30 (fun u6 eu6 H locs hN => ?_)
          have hU : u6 = ww_up (mo_z u) 0 26 (mo_neg z) := by rw [eu6]; unfold mo_neg; (first | rw [if_pos c_22] | rw [if_neg c_22]); rw [eu1]; rfl
          refine lv_goto (tgt := 49) hx hb dX5_condition_33 (by decide) ?_
          refine lv_aload_n hx hb dX5_condition_49 rfl (lv_at hl 0 rfl) ?_
          refine rr_callV (As := []) C hN 0 (Nat.lt_of_lt_of_le (by decide) hNN) rfl rfl rfl (ct_X5_hold l hNN) gX5_condition_X5_hold rfl rfl rfl 0 (by decide +kernel) ⟨Nat.le_of_ble_eq_true rfl, Nat.le_of_ble_eq_true rfl⟩ rfl hl.1 rfl (Nat.le_of_ble_eq_true rfl) ⟨Nat.zero_le _, Nat.zero_le _⟩ dX5_condition_50 (fun H locs hN => ?_)
          refine lv_topi (fun v7 ev7 => ?_)
          refine lv_if_eq (tgt := 60) hx hb dX5_condition_53 (by decide) (fun c_53 => ?_) (fun c_53 => ?_)
          · refine lv_iconst (v := 0) hx hb dX5_condition_60 (by decide) ?_
            exact rr_iret C hN dX5_condition_61 (by rw [ev7, hU] at c_53; unfold mo_cond; rw [if_neg c_6, if_pos c_11]; (first | rw [if_pos c_17] | rw [if_neg c_17]); first | exact congrArg (fun q => some (Value.int q)) c_53 | exact congrArg (fun q => some (Value.int q)) (mo_ho_1 c_53)) (by unfold mo_cond; rw [if_neg c_6, if_pos c_11]; (first | rw [if_pos c_17] | rw [if_neg c_17]); exact hU.symm)
          · refine lv_iconst (v := 1) hx hb dX5_condition_56 (by decide) ?_
            refine lv_goto (tgt := 61) hx hb dX5_condition_57 (by decide) ?_
            exact rr_iret C hN dX5_condition_61 (by rw [ev7, hU] at c_53; unfold mo_cond; rw [if_neg c_6, if_pos c_11]; (first | rw [if_pos c_17] | rw [if_neg c_17]); first | exact congrArg (fun q => some (Value.int q)) c_53 | exact congrArg (fun q => some (Value.int q)) (mo_ho_1 c_53)) (by unfold mo_cond; rw [if_neg c_6, if_pos c_11]; (first | rw [if_pos c_17] | rw [if_neg c_17]); exact hU.symm)
        · refine lv_iconst (v := 1) hx hb dX5_condition_25 (by decide) ?_
          refine lv_goto (tgt := 30) hx hb dX5_condition_26 (by decide) ?_
          refine rr_put C hN 0 (Nat.lt_of_lt_of_le (by decide) hNN) rfl rfl kw_X5_condition_X5 26 (by decide) (List.mem_of_getElem? (i := 2) rfl) rfl (x := 1) (by decide) (by decide) (Nat.le_of_ble_eq_true rfl) ((Eq.refl _).trans rfl) dX5_condition_30 (fun u8 eu8 H locs hN => ?_)
          have hU : u8 = ww_up (mo_z u) 0 26 (mo_neg z) := by rw [eu8]; unfold mo_neg; (first | rw [if_pos c_22] | rw [if_neg c_22]); rw [eu1]; rfl
          refine lv_goto (tgt := 49) hx hb dX5_condition_33 (by decide) ?_
          refine lv_aload_n hx hb dX5_condition_49 rfl (lv_at hl 0 rfl) ?_
          refine rr_callV (As := []) C hN 0 (Nat.lt_of_lt_of_le (by decide) hNN) rfl rfl rfl (ct_X5_hold l hNN) gX5_condition_X5_hold rfl rfl rfl 0 (by decide +kernel) ⟨Nat.le_of_ble_eq_true rfl, Nat.le_of_ble_eq_true rfl⟩ rfl hl.1 rfl (Nat.le_of_ble_eq_true rfl) ⟨Nat.zero_le _, Nat.zero_le _⟩ dX5_condition_50 (fun H locs hN => ?_)
          refine lv_topi (fun v9 ev9 => ?_)
          refine lv_if_eq (tgt := 60) hx hb dX5_condition_53 (by decide) (fun c_53 => ?_) (fun c_53 => ?_)
          · refine lv_iconst (v := 0) hx hb dX5_condition_60 (by decide) ?_
            exact rr_iret C hN dX5_condition_61 (by rw [ev9, hU] at c_53; unfold mo_cond; rw [if_neg c_6, if_pos c_11]; (first | rw [if_pos c_17] | rw [if_neg c_17]); first | exact congrArg (fun q => some (Value.int q)) c_53 | exact congrArg (fun q => some (Value.int q)) (mo_ho_1 c_53)) (by unfold mo_cond; rw [if_neg c_6, if_pos c_11]; (first | rw [if_pos c_17] | rw [if_neg c_17]); exact hU.symm)
          · refine lv_iconst (v := 1) hx hb dX5_condition_56 (by decide) ?_
            refine lv_goto (tgt := 61) hx hb dX5_condition_57 (by decide) ?_
            exact rr_iret C hN dX5_condition_61 (by rw [ev9, hU] at c_53; unfold mo_cond; rw [if_neg c_6, if_pos c_11]; (first | rw [if_pos c_17] | rw [if_neg c_17]); first | exact congrArg (fun q => some (Value.int q)) c_53 | exact congrArg (fun q => some (Value.int q)) (mo_ho_1 c_53)) (by unfold mo_cond; rw [if_neg c_6, if_pos c_11]; (first | rw [if_pos c_17] | rw [if_neg c_17]); exact hU.symm)
    · refine lv_iconst (v := (-1)) hx hb dX5_condition_14 (by decide) ?_
      exact rr_iret C hN dX5_condition_15 (by unfold mo_cond; (first | rw [if_pos c_6] | rw [if_neg c_6, if_neg c_11]); try (subst_vars; rfl)) (by unfold mo_cond; (first | rw [if_pos c_6] | rw [if_neg c_6, if_neg c_11]); try (subst_vars; rfl))
set_option maxRecDepth 20000 in
theorem kw_X5_digest_X5 : ww_K wsX5_digest RX5 TX5 36 tyX5 := ⟨by decide +kernel, tyX5_ok, nmX5⟩
set_option maxHeartbeats 4000000 in
set_option maxRecDepth 100000 in
theorem ct_X5_digest0 (l : Launch) {D : va_G} {ca : Nat → ClassId} {B : Nat → Nat} {N n : Nat} {X : va_W} {u : ww_U} {x : Int32} (h : x < 0 ∨ u 0 24 ≤ x) (hNN : 29 ≤ N)  : ww_M l yX5_digest wsX5_digest ({ frames := 0, cells := 0, slots := 0, locals := 0 } : Room) D ca B N n X u [.ref (B 0), .int x] (some (.int 0)) (ww_up u 0 0 1) := by
  refine ww_met (cc := cX5_digest) (maxL := 2) (ret := (some .byte)) (by decide) rfl (Nat.le_of_ble_eq_true rfl) ?_
  intro p e s m args below meth c C hN ls hl
  have hl : lv_has ls 2 [(0, .ref (B 0)), (1, .int x)] := hl
  have hx := C.1.1
  have hb := C.1.2.1
  refine lv_aload_n hx hb dX5_digest_0 rfl (lv_at hl 0 rfl) ?_
  refine lv_iload_n hx hb dX5_digest_1 rfl (lv_at hl 1 rfl) ?_
  refine lv_if_lt (tgt := 13) hx hb dX5_digest_2 (by decide) (fun c_2 => ?_) (fun c_2 => ?_)
  · refine lv_iconst (v := 1) hx hb dX5_digest_13 (by decide) ?_
    refine lv_goto (tgt := 18) hx hb dX5_digest_14 (by decide) ?_
    refine rr_put C hN 0 (Nat.lt_of_lt_of_le (by decide) hNN) rfl rfl kw_X5_digest_X5 0 (by decide) (List.mem_of_getElem? (i := 2) rfl) rfl (x := 1) rfl rfl (Nat.le_of_ble_eq_true rfl) ((Eq.refl _).trans rfl) dX5_digest_18 (fun u1 eu1 H locs hN => ?_)
    refine lv_aload_n hx hb dX5_digest_21 rfl (lv_at hl 0 rfl) ?_
    refine rr_get C hN 0 (Nat.lt_of_lt_of_le (by decide) hNN) rfl rfl kw_X5_digest_X5 0 (by decide) (List.mem_of_getElem? (i := 2) rfl) (v := .int (u1 0 0)) rfl dX5_digest_22 ?_
    refine lv_if_le (tgt := 32) hx hb dX5_digest_25 (by decide) (fun c_25 => absurd c_25 (by rw [eu1, ww_up_self]; decide)) (fun c_25 => ?_)
    refine lv_iconst (v := 0) hx hb dX5_digest_28 (by decide) ?_
    refine lv_goto (tgt := 39) hx hb dX5_digest_29 (by decide) ?_
    exact rr_zret C hN dX5_digest_39 (by first | rfl | decide) rfl (by subst_vars; rfl)
  · refine lv_iload_n hx hb dX5_digest_5 rfl (lv_at hl 1 rfl) ?_
    refine lv_aload_n hx hb dX5_digest_6 rfl (lv_at hl 0 rfl) ?_
    refine rr_get C hN 0 (Nat.lt_of_lt_of_le (by decide) hNN) rfl rfl kw_X5_digest_X5 24 (by decide) (List.mem_of_getElem? (i := 1) rfl) (v := .int (u 0 24)) rfl dX5_digest_7 ?_
    refine lv_icmp_lt (tgt := 17) hx hb dX5_digest_10 (by decide) (fun c_10 => absurd c_10 (by rcases h with h | h; exact absurd h c_2; exact Int32.not_lt.mpr h)) (fun c_10 => ?_)
    refine lv_iconst (v := 1) hx hb dX5_digest_13 (by decide) ?_
    refine lv_goto (tgt := 18) hx hb dX5_digest_14 (by decide) ?_
    refine rr_put C hN 0 (Nat.lt_of_lt_of_le (by decide) hNN) rfl rfl kw_X5_digest_X5 0 (by decide) (List.mem_of_getElem? (i := 2) rfl) rfl (x := 1) rfl rfl (Nat.le_of_ble_eq_true rfl) ((Eq.refl _).trans rfl) dX5_digest_18 (fun u2 eu2 H locs hN => ?_)
    refine lv_aload_n hx hb dX5_digest_21 rfl (lv_at hl 0 rfl) ?_
    refine rr_get C hN 0 (Nat.lt_of_lt_of_le (by decide) hNN) rfl rfl kw_X5_digest_X5 0 (by decide) (List.mem_of_getElem? (i := 2) rfl) (v := .int (u2 0 0)) rfl dX5_digest_22 ?_
    refine lv_if_le (tgt := 32) hx hb dX5_digest_25 (by decide) (fun c_25 => absurd c_25 (by rw [eu2, ww_up_self]; decide)) (fun c_25 => ?_)
    refine lv_iconst (v := 0) hx hb dX5_digest_28 (by decide) ?_
    refine lv_goto (tgt := 39) hx hb dX5_digest_29 (by decide) ?_
    exact rr_zret C hN dX5_digest_39 (by first | rfl | decide) rfl (by subst_vars; rfl)
set_option maxHeartbeats 4000000 in
set_option maxRecDepth 100000 in
theorem ct_X5_digest (l : Launch) {D : va_G} {ca : Nat → ClassId} {B : Nat → Nat} {N n : Nat} {X : va_W} {u : ww_U} {x : Int32} {i : Nat} (hi : i < 32) (hxi : x = nI i) (h1 : x < u 0 24) (hNN : 29 ≤ N)  : ww_M l yX5_digest wsX5_digest ({ frames := 0, cells := 0, slots := 0, locals := 0 } : Room) D ca B N n X u [.ref (B 0), .int x] (some (.int (u 21 i).toInt8.toInt32)) (mo_z u) := by
  refine ww_met (cc := cX5_digest) (maxL := 2) (ret := (some .byte)) (by decide) rfl (Nat.le_of_ble_eq_true rfl) ?_
  intro p e s m args below meth c C hN ls hl
  have hl : lv_has ls 2 [(0, .ref (B 0)), (1, .int x)] := hl
  have hx := C.1.1
  have hb := C.1.2.1
  refine lv_aload_n hx hb dX5_digest_0 rfl (lv_at hl 0 rfl) ?_
  refine lv_iload_n hx hb dX5_digest_1 rfl (lv_at hl 1 rfl) ?_
  refine lv_if_lt (tgt := 13) hx hb dX5_digest_2 (by decide) (fun c_2 => absurd c_2 (by rw [hxi]; exact nI_pos (by omega))) (fun c_2 => ?_)
  refine lv_iload_n hx hb dX5_digest_5 rfl (lv_at hl 1 rfl) ?_
  refine lv_aload_n hx hb dX5_digest_6 rfl (lv_at hl 0 rfl) ?_
  refine rr_get C hN 0 (Nat.lt_of_lt_of_le (by decide) hNN) rfl rfl kw_X5_digest_X5 24 (by decide) (List.mem_of_getElem? (i := 1) rfl) (v := .int (u 0 24)) rfl dX5_digest_7 ?_
  refine lv_icmp_lt (tgt := 17) hx hb dX5_digest_10 (by decide) (fun c_10 => ?_) (fun c_10 => absurd c_10 (fun h => h h1))
  refine lv_iconst (v := 0) hx hb dX5_digest_17 (by decide) ?_
  refine rr_put C hN 0 (Nat.lt_of_lt_of_le (by decide) hNN) rfl rfl kw_X5_digest_X5 0 (by decide) (List.mem_of_getElem? (i := 2) rfl) rfl (x := 0) rfl rfl (Nat.le_of_ble_eq_true rfl) ((Eq.refl _).trans rfl) dX5_digest_18 (fun u1 eu1 H locs hN => ?_)
  refine lv_aload_n hx hb dX5_digest_21 rfl (lv_at hl 0 rfl) ?_
  refine rr_get C hN 0 (Nat.lt_of_lt_of_le (by decide) hNN) rfl rfl kw_X5_digest_X5 0 (by decide) (List.mem_of_getElem? (i := 2) rfl) (v := .int (u1 0 0)) rfl dX5_digest_22 ?_
  refine lv_if_le (tgt := 32) hx hb dX5_digest_25 (by decide) (fun c_25 => ?_) (fun c_25 => absurd c_25 (fun h => h (by rw [eu1, ww_up_self]; decide)))
  refine lv_aload_n hx hb dX5_digest_32 rfl (lv_at hl 0 rfl) ?_
  refine rr_get C hN 0 (Nat.lt_of_lt_of_le (by decide) hNN) rfl rfl kw_X5_digest_X5 25 (by decide) (List.mem_of_getElem? (i := 3) rfl) (v := .ref (B 21)) rfl dX5_digest_33 ?_
  refine lv_iload_n hx hb dX5_digest_36 rfl (lv_at hl 1 rfl) ?_
  refine rr_iald C hN 21 (Nat.lt_of_lt_of_le (by decide) hNN) rfl (by decide) i hi hxi dX5_digest_37 ?_
  refine lv_i2b hx hb dX5_digest_38 rfl ?_
  refine lv_topi (fun v2 ev2 => ?_)
  exact rr_zret C hN dX5_digest_39 (by rw [ev2]; exact pk_nb _) (by subst_vars; rfl) (by subst_vars; rfl)
