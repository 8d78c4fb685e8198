theorem cu_mls_r {n d k : Nat} {a : Int32} {u : ww_U} (h : cu_run n u) : cu_run n (cu_mls d k a u) := by
  induction d generalizing k u with
  | zero => exact h
  | succ d ih =>
    unfold cu_mls
    split
    · exact ih (cu_run_up h (by decide))
    · refine ih (fun i hi => ?_)
      obtain ⟨b, hb, e⟩ := cu_run_up (k := kC k) (j := 9) (x := u (kP k) 2) h (by decide) i hi
      exact ⟨b, hb, by rw [ww_up_ne (by simp only [kC, kP]; omega)]; exact e⟩
theorem cu_run_switch {n i : Nat} {u : ww_U} (h : cu_run n u) (hi : i < n) : cu_run n (cu_switch n u i) := by
  have h1 : cu_run n (ww_up (cu_other u i) (kP i) 4 3) := cu_run_up (cu_run_other h hi) (by decide)
  unfold cu_switch
  split
  · exact h1
  · exact cu_mls_r h1
def cu_boot (n : Nat) (u : ww_U) (j : Nat) : ww_U := if u (kC j) 5 = 0 then u else if ww_up u (kC j) 5 0 (kP j) 4 = 2 then (if ww_up u (kC j) 5 0 (kP j) 7 = 0 then ww_up u (kC j) 5 0 else cu_switch n (ww_up u (kC j) 5 0) j) else ww_up u (kC j) 5 0
def cu_boot_r (n : Nat) (u : ww_U) (j : Nat) : Int32 := cu_boot n u j (kB j (cu_b (cu_boot n u j) j)) 1
theorem cu_run_boot {n j : Nat} {u : ww_U} (h : cu_run n u) (hj : j < n) : cu_run n (cu_boot n u j) := by
  unfold cu_boot
  (repeat' split) <;> first | exact h | exact cu_run_up h (by decide) | exact cu_run_switch (cu_run_up h (by decide)) hj
def cu_wr (u : ww_U) (j : Nat) : Prop := u (kP j) 4 = 1 → ∃ w len, u (kP j) 5 = nI w ∧ u (kP j) 1 = nI len ∧ 16 * w < len ∧ len ≤ 256
def cu_wrt (u : ww_U) (j : Nat) : ww_U := cu_write u j (1 - cu_b u j) (u (kP j) 5).toNatClampNeg (u (kP j) 1).toNatClampNeg
def cu_step (n : Nat) (u : ww_U) (j : Nat) : ww_U × Int32 := if cu_away u j = 0 then (if u (kP j) 4 = 2 then cu_ready n u j else if u (kP j) 4 = 1 then (if cu_hold u = 0 then (u, u (kP j) 4) else (cu_wrt u j, cu_wrt u j (kP j) 4)) else (u, u (kP j) 4)) else (u, -3)
theorem cu_fo_lt {n d k i : Nat} {a : Int32} {u : ww_U} (hd : k + d = n) (h : cu_fo d k a u = some i) : i < n := by
  induction d generalizing k with
  | zero => cases h
  | succ d ih =>
    unfold cu_fo at h
    split at h
    · exact ih (by omega) h
    · split at h
      · cases h; omega
      · exact ih (by omega) h
def cu_needs (n : Nat) (u : ww_U) (p q : Int32) : ww_U × Int32 := if cu_isp u p = 0 then (u, -1) else if cu_isp u q = 0 then (u, -1) else if p = q then (u, -2) else match cu_fo n 0 p u, cu_fo n 0 q u with
  | some i, some j => if u (kP i) 7 = 0 then (if u (kP j) 7 = 0 then cu_join n 0 (u (kP i) 6) (u (kP j) 6) u 0 else (u, -3)) else (u, -3)
  | _, _ => (u, -3)
set_option maxRecDepth 20000 in
theorem kw_X4_boot_X0 : ww_K wsX4_boot RX0 TX0 3 tyX0 := ⟨by decide +kernel, tyX0_ok, nmX0⟩
set_option maxRecDepth 20000 in
theorem kw_X4_boot_X1 : ww_K wsX4_boot RX1 TX1 10 tyX1 := ⟨by decide +kernel, tyX1_ok, nmX1⟩
set_option maxRecDepth 20000 in
theorem kw_X4_boot_X3 : ww_K wsX4_boot RX3 TX3 8 tyX3 := ⟨by decide +kernel, tyX3_ok, nmX3⟩
set_option maxHeartbeats 4000000 in
set_option maxRecDepth 100000 in
theorem ct_X4_boot (l : Launch) {D : va_G} {ca : Nat → ClassId} {B : Nat → Nat} {N n : Nat} {X : va_W} {u : ww_U} {x : Int32} (j : Nat) (hj : j < 8) (hj2 : j < n) (hxj : x = nI (j + 1)) (hx1 : ¬ x < 1) (hx2 : x ≤ u 29 1) (hn8 : n ≤ 8) (hc : u 29 1 = nI n) (hrun : cu_run n u) (hNn : 36 + 8 * n ≤ N)  : ww_M l yX4_boot wsX4_boot ({ frames := 3, cells := 0, slots := 0, locals := 65 } : Room) D ca B N n X u [.ref (B 29), .int x] (some (.int (cu_boot_r n u j))) (cu_boot n u j) := by
  refine ww_met (cc := cX4_boot) (maxL := 3) (ret := (some .int)) (by decide) rfl (Nat.le_of_ble_eq_true rfl) ?_
  intro p e s m args below meth c C hN ls hl
  have hl : lv_has ls 3 [(0, .ref (B 29)), (1, .int x)] := hl
  have hx := C.1.1
  have hb := C.1.2.1
  have hNB : 36 ≤ N := by omega
  have hNN : 29 ≤ N := by omega
  refine lv_aload_n hx hb dX4_boot_0 rfl (lv_at hl 0 rfl) ?_
  refine lv_iload_n hx hb dX4_boot_1 rfl (lv_at hl 1 rfl) ?_
  refine rr_callV (As := [.int x]) C hN 29 (Nat.lt_of_lt_of_le (by decide) hNB) rfl rfl rfl (ct_X4_find l j hj hj2 hxj hNn hx1 hx2) gX4_boot_X4_find rfl rfl rfl 1 (by decide +kernel) ⟨Nat.le_of_ble_eq_true rfl, Nat.le_of_ble_eq_true rfl⟩ rfl hl.1 rfl (Nat.le_of_ble_eq_true rfl) ⟨Nat.zero_le _, Nat.zero_le _⟩ dX4_boot_2 (fun H locs hN => ?_)
  refine lv_astore_n (lv' := [(2, .ref (B (kC j))), (0, .ref (B 29)), (1, .int x)]) hx hb dX4_boot_5 rfl hl (by decide) rfl (fun ls hl => ?_)
  refine lv_aload_n hx hb dX4_boot_6 rfl (lv_at hl 0 rfl) ?_
  refine lv_ifnonnull (tgt := 12) hx hb dX4_boot_7 (by decide) ?_
  refine lv_aload_n hx hb dX4_boot_12 rfl (lv_at hl 0 rfl) ?_
  refine rr_get C hN (kC j) (kC_lt hNn hj2) hC_ce rfl kw_X4_boot_X1 5 (by decide) (List.mem_of_getElem? (i := 1) rfl) (v := .int (u (kC j) 5)) rfl dX4_boot_13 ?_
  refine lv_if_eq (tgt := 50) hx hb dX4_boot_16 (by decide) (fun c_16 => ?_) (fun c_16 => ?_)
  · refine lv_aload_n hx hb dX4_boot_50 rfl (lv_at hl 0 rfl) ?_
    obtain ⟨b, hb2, hbe⟩ : ∃ b, b < 2 ∧ u (kC j) 3 = nI b := (by subst_vars; first | exact hrun j hj2 | exact cu_run_up hrun (by decide) j hj2 | exact cu_run_switch (cu_run_up hrun (by decide)) hj2 j hj2)
    have hcb : cu_b u j = b := cu_b_of hb2 hbe
    refine rr_callV (As := []) C hN (kC j) (kC_lt hNn hj2) hC_ce rfl rfl (ct_X1_runningBank l hj2 hb2 hbe hNn) gX4_boot_X1_runningBank rfl rfl rfl 0 (by decide +kernel) ⟨Nat.le_of_ble_eq_true rfl, Nat.le_of_ble_eq_true rfl⟩ rfl hl.1 rfl (Nat.le_of_ble_eq_true rfl) ⟨Nat.zero_le _, Nat.zero_le _⟩ dX4_boot_51 (fun H locs hN => ?_)
    refine rr_get C hN (kB j b) (kB_lt hNn hj2 hb2) (hB_ce hb2) rfl kw_X4_boot_X0 1 (by decide) (List.mem_of_getElem? (i := 5) rfl) (v := .int (u (kB j b) 1)) rfl dX4_boot_54 ?_
    have hE : cu_boot n u j = u := by unfold cu_boot; rw [if_pos c_16]
    exact rr_iret C hN dX4_boot_57 (by unfold cu_boot_r; rw [hE, hcb]) hE
  · refine lv_aload_n hx hb dX4_boot_19 rfl (lv_at hl 0 rfl) ?_
    refine lv_iconst (v := 0) hx hb dX4_boot_20 (by decide) ?_
    refine rr_put C hN (kC j) (kC_lt hNn hj2) hC_ce rfl kw_X4_boot_X1 5 (by decide) (List.mem_of_getElem? (i := 1) rfl) rfl (x := 0) (by decide) (by decide) (Nat.le_of_ble_eq_true rfl) (hC_ce.trans rfl) dX4_boot_21 (fun u1 eu1 H locs hN => ?_)
    refine lv_aload_n hx hb dX4_boot_24 rfl (lv_at hl 0 rfl) ?_
    refine rr_get C hN (kC j) (kC_lt hNn hj2) hC_ce rfl kw_X4_boot_X1 2 (by decide) (List.mem_of_getElem? (i := 2) rfl) (v := .ref (B (kP j))) rfl dX4_boot_25 ?_
    refine rr_get C hN (kP j) (kP_lt hNn hj2) hP_ce rfl kw_X4_boot_X3 4 (by decide) (List.mem_of_getElem? (i := 3) rfl) (v := .int (u1 (kP j) 4)) rfl dX4_boot_28 ?_
    refine lv_iconst (v := 2) hx hb dX4_boot_31 (by decide) ?_
    refine lv_icmp_ne (tgt := 50) hx hb dX4_boot_32 (by decide) (fun c_32 => ?_) (fun c_32 => ?_)
    · refine lv_aload_n hx hb dX4_boot_50 rfl (lv_at hl 0 rfl) ?_
      obtain ⟨b, hb2, hbe⟩ : ∃ b, b < 2 ∧ u1 (kC j) 3 = nI b := (by subst_vars; first | exact hrun j hj2 | exact cu_run_up hrun (by decide) j hj2 | exact cu_run_switch (cu_run_up hrun (by decide)) hj2 j hj2)
      have hcb : cu_b u1 j = b := cu_b_of hb2 hbe
      refine rr_callV (As := []) C hN (kC j) (kC_lt hNn hj2) hC_ce rfl rfl (ct_X1_runningBank l hj2 hb2 hbe hNn) gX4_boot_X1_runningBank rfl rfl rfl 0 (by decide +kernel) ⟨Nat.le_of_ble_eq_true rfl, Nat.le_of_ble_eq_true rfl⟩ rfl hl.1 rfl (Nat.le_of_ble_eq_true rfl) ⟨Nat.zero_le _, Nat.zero_le _⟩ dX4_boot_51 (fun H locs hN => ?_)
      refine rr_get C hN (kB j b) (kB_lt hNn hj2 hb2) (hB_ce hb2) rfl kw_X4_boot_X0 1 (by decide) (List.mem_of_getElem? (i := 5) rfl) (v := .int (u1 (kB j b) 1)) rfl dX4_boot_54 ?_
      have hE : cu_boot n u j = u1 := by unfold cu_boot; rw [if_neg c_16]; subst_vars; rw [if_neg c_32]
      exact rr_iret C hN dX4_boot_57 (by unfold cu_boot_r; rw [hE, hcb]) hE
    · refine lv_aload_n hx hb dX4_boot_35 rfl (lv_at hl 0 rfl) ?_
      refine rr_get C hN (kC j) (kC_lt hNn hj2) hC_ce rfl kw_X4_boot_X1 2 (by decide) (List.mem_of_getElem? (i := 2) rfl) (v := .ref (B (kP j))) rfl dX4_boot_36 ?_
      refine rr_get C hN (kP j) (kP_lt hNn hj2) hP_ce rfl kw_X4_boot_X3 7 (by decide) (List.mem_of_getElem? (i := 4) rfl) (v := .int (u1 (kP j) 7)) rfl dX4_boot_39 ?_
      refine lv_if_eq (tgt := 50) hx hb dX4_boot_42 (by decide) (fun c_42 => ?_) (fun c_42 => ?_)
      · refine lv_aload_n hx hb dX4_boot_50 rfl (lv_at hl 0 rfl) ?_
        obtain ⟨b, hb2, hbe⟩ : ∃ b, b < 2 ∧ u1 (kC j) 3 = nI b := (by subst_vars; first | exact hrun j hj2 | exact cu_run_up hrun (by decide) j hj2 | exact cu_run_switch (cu_run_up hrun (by decide)) hj2 j hj2)
        have hcb : cu_b u1 j = b := cu_b_of hb2 hbe
        refine rr_callV (As := []) C hN (kC j) (kC_lt hNn hj2) hC_ce rfl rfl (ct_X1_runningBank l hj2 hb2 hbe hNn) gX4_boot_X1_runningBank rfl rfl rfl 0 (by decide +kernel) ⟨Nat.le_of_ble_eq_true rfl, Nat.le_of_ble_eq_true rfl⟩ rfl hl.1 rfl (Nat.le_of_ble_eq_true rfl) ⟨Nat.zero_le _, Nat.zero_le _⟩ dX4_boot_51 (fun H locs hN => ?_)
        refine rr_get C hN (kB j b) (kB_lt hNn hj2 hb2) (hB_ce hb2) rfl kw_X4_boot_X0 1 (by decide) (List.mem_of_getElem? (i := 5) rfl) (v := .int (u1 (kB j b) 1)) rfl dX4_boot_54 ?_
        have hE : cu_boot n u j = u1 := by unfold cu_boot; rw [if_neg c_16]; subst_vars; rw [if_pos c_32, if_pos c_42]
        exact rr_iret C hN dX4_boot_57 (by unfold cu_boot_r; rw [hE, hcb]) hE
      · refine lv_aload_n hx hb dX4_boot_45 rfl (lv_at hl 1 rfl) ?_
        refine lv_aload_n hx hb dX4_boot_46 rfl (lv_at hl 0 rfl) ?_
        refine rr_callV0 (As := [.ref (B (kC j))]) C hN 29 (Nat.lt_of_lt_of_le (by decide) hNB) rfl rfl rfl (ct_X4_switchBanks l hj2 hNn hn8 (by subst_vars; rw [ww_up_ne (by simp only [kC]; omega)]; exact hc) (by subst_vars; exact cu_run_up hrun (by decide))) gX4_boot_X4_switchBanks rfl rfl rfl 1 (by decide +kernel) ⟨Nat.le_of_ble_eq_true rfl, Nat.le_of_ble_eq_true rfl⟩ rfl hl.1 rfl (Nat.le_of_ble_eq_true rfl) ⟨Nat.zero_le _, Nat.zero_le _⟩ dX4_boot_47 (fun H locs hN => ?_)
        obtain ⟨u2, eu2⟩ : ∃ y : ww_U, y = cu_switch n u1 j := ⟨_, rfl⟩
        rw [← eu2] at hN
        refine lv_aload_n hx hb dX4_boot_50 rfl (lv_at hl 0 rfl) ?_
        obtain ⟨b, hb2, hbe⟩ : ∃ b, b < 2 ∧ u2 (kC j) 3 = nI b := (by subst_vars; first | exact hrun j hj2 | exact cu_run_up hrun (by decide) j hj2 | exact cu_run_switch (cu_run_up hrun (by decide)) hj2 j hj2)
        have hcb : cu_b u2 j = b := cu_b_of hb2 hbe
        refine rr_callV (As := []) C hN (kC j) (kC_lt hNn hj2) hC_ce rfl rfl (ct_X1_runningBank l hj2 hb2 hbe hNn) gX4_boot_X1_runningBank rfl rfl rfl 0 (by decide +kernel) ⟨Nat.le_of_ble_eq_true rfl, Nat.le_of_ble_eq_true rfl⟩ rfl hl.1 rfl (Nat.le_of_ble_eq_true rfl) ⟨Nat.zero_le _, Nat.zero_le _⟩ dX4_boot_51 (fun H locs hN => ?_)
        refine rr_get C hN (kB j b) (kB_lt hNn hj2 hb2) (hB_ce hb2) rfl kw_X4_boot_X0 1 (by decide) (List.mem_of_getElem? (i := 5) rfl) (v := .int (u2 (kB j b) 1)) rfl dX4_boot_54 ?_
        have hE : cu_boot n u j = u2 := by unfold cu_boot; rw [if_neg c_16]; subst_vars; rw [if_pos c_32, if_neg c_42]
        exact rr_iret C hN dX4_boot_57 (by unfold cu_boot_r; rw [hE, hcb]) hE
set_option maxHeartbeats 4000000 in
set_option maxRecDepth 100000 in
theorem ct_X4_step0 (l : Launch) {D : va_G} {ca : Nat → ClassId} {B : Nat → Nat} {N n : Nat} {X : va_W} {u : ww_U} {x : Int32} (h : x < 1 ∨ u 29 1 < x) (hNn : 36 + 8 * n ≤ N)  : ww_M l yX4_step wsX4_step ({ frames := 4, cells := 0, slots := 0, locals := 86 } : Room) D ca B N n X u [.ref (B 29), .int x] (some (.int (-1))) u := by
  refine ww_met (cc := cX4_step) (maxL := 3) (ret := (some .int)) (by decide) rfl (Nat.le_of_ble_eq_true rfl) ?_
  intro p e s m args below meth c C hN ls hl
  have hl : lv_has ls 3 [(0, .ref (B 29)), (1, .int x)] := hl
  have hx := C.1.1
  have hb := C.1.2.1
  have hNB : 36 ≤ N := by omega
  have hNN : 29 ≤ N := by omega
  refine lv_aload_n hx hb dX4_step_0 rfl (lv_at hl 0 rfl) ?_
  refine lv_iload_n hx hb dX4_step_1 rfl (lv_at hl 1 rfl) ?_
  refine rr_callV (As := [.int x]) C hN 29 (Nat.lt_of_lt_of_le (by decide) hNB) rfl rfl rfl (ct_X4_find0 l h hNn) gX4_step_X4_find rfl rfl rfl 1 (by decide +kernel) ⟨Nat.le_of_ble_eq_true rfl, Nat.le_of_ble_eq_true rfl⟩ rfl hl.1 rfl (Nat.le_of_ble_eq_true rfl) ⟨Nat.zero_le _, Nat.zero_le _⟩ dX4_step_2 (fun H locs hN => ?_)
  refine lv_astore_nN (lv' := [(2, .null), (0, .ref (B 29)), (1, .int x)]) hx hb dX4_step_5 rfl hl (by decide) rfl (fun ls hl => ?_)
  refine lv_aload_nN hx hb dX4_step_6 rfl (lv_at hl 0 rfl) ?_
  refine lv_ifnonnullN hx hb dX4_step_7 ?_
  refine lv_iconst (v := (-1)) hx hb dX4_step_10 (by decide) ?_
  exact rr_iret C hN dX4_step_11 rfl rfl
set_option maxRecDepth 20000 in
theorem kw_X4_step_X1 : ww_K wsX4_step RX1 TX1 10 tyX1 := ⟨by decide +kernel, tyX1_ok, nmX1⟩
set_option maxRecDepth 20000 in
theorem kw_X4_step_X3 : ww_K wsX4_step RX3 TX3 8 tyX3 := ⟨by decide +kernel, tyX3_ok, nmX3⟩
set_option maxHeartbeats 4000000 in
set_option maxRecDepth 100000 in
theorem ct_X4_step (l : Launch) {D : va_G} {ca : Nat → ClassId} {B : Nat → Nat} {N n : Nat} {X : va_W} {u : ww_U} {x : Int32} (j : Nat) (hj : j < 8) (hj2 : j < n) (hxj : x = nI (j + 1)) (hx1 : ¬ x < 1) (hx2 : x ≤ u 29 1) (hn8 : n ≤ 8) (hc : u 29 1 = nI n) (hrun : cu_run n u) (hwr : cu_wr u j) (hNn : 36 + 8 * n ≤ N)  : ww_M l yX4_step wsX4_step ({ frames := 4, cells := 0, slots := 0, locals := 86 } : Room) D ca B N n X u [.ref (B 29), .int x] (some (.int (cu_step n u j).2)) (cu_step n u j).1 := by
  refine ww_met (cc := cX4_step) (maxL := 3) (ret := (some .int)) (by decide) rfl (Nat.le_of_ble_eq_true rfl) ?_
  intro p e s m args below meth c C hN ls hl
  have hl : lv_has ls 3 [(0, .ref (B 29)), (1, .int x)] := hl
  have hx := C.1.1
  have hb := C.1.2.1
  have hNB : 36 ≤ N := by omega
  have hNN : 29 ≤ N := by omega
  refine lv_aload_n hx hb dX4_step_0 rfl (lv_at hl 0 rfl) ?_
  refine lv_iload_n hx hb dX4_step_1 rfl (lv_at hl 1 rfl) ?_
  refine rr_callV (As := [.int x]) C hN 29 (Nat.lt_of_lt_of_le (by decide) hNB) rfl rfl rfl (ct_X4_find l j hj hj2 hxj hNn hx1 hx2) gX4_step_X4_find rfl rfl rfl 1 (by decide +kernel) ⟨Nat.le_of_ble_eq_true rfl, Nat.le_of_ble_eq_true rfl⟩ rfl hl.1 rfl (Nat.le_of_ble_eq_true rfl) ⟨Nat.zero_le _, Nat.zero_le _⟩ dX4_step_2 (fun H locs hN => ?_)
  refine lv_astore_n (lv' := [(2, .ref (B (kC j))), (0, .ref (B 29)), (1, .int x)]) hx hb dX4_step_5 rfl hl (by decide) rfl (fun ls hl => ?_)
  refine lv_aload_n hx hb dX4_step_6 rfl (lv_at hl 0 rfl) ?_
  refine lv_ifnonnull (tgt := 12) hx hb dX4_step_7 (by decide) ?_
  refine lv_aload_n hx hb dX4_step_12 rfl (lv_at hl 0 rfl) ?_
  refine rr_callV (As := []) C hN (kC j) (kC_lt hNn hj2) hC_ce rfl rfl (ct_X1_isAway l hj2 hNn) gX4_step_X1_isAway rfl rfl rfl 0 (by decide +kernel) ⟨Nat.le_of_ble_eq_true rfl, Nat.le_of_ble_eq_true rfl⟩ rfl hl.1 rfl (Nat.le_of_ble_eq_true rfl) ⟨Nat.zero_le _, Nat.zero_le _⟩ dX4_step_13 (fun H locs hN => ?_)
  refine lv_topi (fun v1 ev1 => ?_)
  refine lv_if_eq (tgt := 22) hx hb dX4_step_16 (by decide) (fun c_16 => ?_) (fun c_16 => ?_)
  · have hAw : cu_away u j = 0 := by rw [← ev1]; exact c_16
    refine lv_aload_n hx hb dX4_step_22 rfl (lv_at hl 0 rfl) ?_
    refine rr_get C hN (kC j) (kC_lt hNn hj2) hC_ce rfl kw_X4_step_X1 2 (by decide) (List.mem_of_getElem? (i := 1) rfl) (v := .ref (B (kP j))) rfl dX4_step_23 ?_
    refine rr_get C hN (kP j) (kP_lt hNn hj2) hP_ce rfl kw_X4_step_X3 4 (by decide) (List.mem_of_getElem? (i := 2) rfl) (v := .int (u (kP j) 4)) rfl dX4_step_26 ?_
    refine lv_iconst (v := 2) hx hb dX4_step_29 (by decide) ?_
    refine lv_icmp_ne (tgt := 39) hx hb dX4_step_30 (by decide) (fun c_30 => ?_) (fun c_30 => ?_)
    · refine lv_aload_n hx hb dX4_step_39 rfl (lv_at hl 0 rfl) ?_
      refine rr_get C hN (kC j) (kC_lt hNn hj2) hC_ce rfl kw_X4_step_X1 2 (by decide) (List.mem_of_getElem? (i := 1) rfl) (v := .ref (B (kP j))) rfl dX4_step_40 ?_
      refine rr_get C hN (kP j) (kP_lt hNn hj2) hP_ce rfl kw_X4_step_X3 4 (by decide) (List.mem_of_getElem? (i := 2) rfl) (v := .int (u (kP j) 4)) rfl dX4_step_43 ?_
      refine lv_iconst (v := 1) hx hb dX4_step_46 (by decide) ?_
      refine lv_icmp_ne (tgt := 61) hx hb dX4_step_47 (by decide) (fun c_47 => ?_) (fun c_47 => ?_)
      · refine lv_aload_n hx hb dX4_step_61 rfl (lv_at hl 0 rfl) ?_
        refine rr_get C hN (kC j) (kC_lt hNn hj2) hC_ce rfl kw_X4_step_X1 2 (by decide) (List.mem_of_getElem? (i := 1) rfl) (v := .ref (B (kP j))) rfl dX4_step_62 ?_
        refine rr_get C hN (kP j) (kP_lt hNn hj2) hP_ce rfl kw_X4_step_X3 4 (by decide) (List.mem_of_getElem? (i := 2) rfl) (v := .int (u (kP j) 4)) rfl dX4_step_65 ?_
        exact rr_iret C hN dX4_step_68 (by unfold cu_step; rw [if_pos hAw, if_neg c_30, if_neg c_47]) (by unfold cu_step; rw [if_pos hAw, if_neg c_30, if_neg c_47])
      · refine lv_aload_n hx hb dX4_step_50 rfl (lv_at hl 1 rfl) ?_
        refine rr_callV (As := []) C hN 29 (Nat.lt_of_lt_of_le (by decide) hNB) rfl rfl rfl (ct_X4_bothHold l hNn) gX4_step_X4_bothHold rfl rfl rfl 0 (by decide +kernel) ⟨Nat.le_of_ble_eq_true rfl, Nat.le_of_ble_eq_true rfl⟩ rfl hl.1 rfl (Nat.le_of_ble_eq_true rfl) ⟨Nat.zero_le _, Nat.zero_le _⟩ dX4_step_51 (fun H locs hN => ?_)
        refine lv_topi (fun v2 ev2 => ?_)
        refine lv_if_eq (tgt := 61) hx hb dX4_step_54 (by decide) (fun c_54 => ?_) (fun c_54 => ?_)
        · have hHo : cu_hold u = 0 := by rw [← ev2]; exact c_54
          refine lv_aload_n hx hb dX4_step_61 rfl (lv_at hl 0 rfl) ?_
          refine rr_get C hN (kC j) (kC_lt hNn hj2) hC_ce rfl kw_X4_step_X1 2 (by decide) (List.mem_of_getElem? (i := 1) rfl) (v := .ref (B (kP j))) rfl dX4_step_62 ?_
          refine rr_get C hN (kP j) (kP_lt hNn hj2) hP_ce rfl kw_X4_step_X3 4 (by decide) (List.mem_of_getElem? (i := 2) rfl) (v := .int (u (kP j) 4)) rfl dX4_step_65 ?_
          exact rr_iret C hN dX4_step_68 (by unfold cu_step; rw [if_pos hAw, if_neg c_30, if_pos c_47, if_pos hHo]) (by unfold cu_step; rw [if_pos hAw, if_neg c_30, if_pos c_47, if_pos hHo])
        · have hHo : ¬ cu_hold u = 0 := by rw [← ev2]; exact c_54
          refine lv_aload_n hx hb dX4_step_57 rfl (lv_at hl 0 rfl) ?_
          obtain ⟨w, len, hwe, hle, hw, hlen⟩ := hwr c_47
          obtain ⟨b0, hb0, hbe0⟩ := hrun j hj2
          have hwt : cu_wrt u j = cu_write u j (1 - b0) w len := by unfold cu_wrt; rw [cu_b_of hb0 hbe0, hwe, hle, nI_clamp (by omega), nI_clamp (by omega)]
          refine rr_callV0 (As := []) C hN (kC j) (kC_lt hNn hj2) hC_ce rfl rfl (ct_X1_writeNextBlock l hj2 (b := 1 - b0) (w := w) (len := len) (by omega) (by rw [hbe0]; congr 1; omega) hlen hle hw hwe hNn) gX4_step_X1_writeNextBlock rfl rfl rfl 0 (by decide +kernel) ⟨Nat.le_of_ble_eq_true rfl, Nat.le_of_ble_eq_true rfl⟩ rfl hl.1 rfl (Nat.le_of_ble_eq_true rfl) ⟨Nat.zero_le _, Nat.zero_le _⟩ dX4_step_58 (fun H locs hN => ?_)
          obtain ⟨u3, eu3⟩ : ∃ y : ww_U, y = cu_write u j (1 - b0) w len := ⟨_, rfl⟩
          rw [← eu3] at hN
          refine lv_aload_n hx hb dX4_step_61 rfl (lv_at hl 0 rfl) ?_
          refine rr_get C hN (kC j) (kC_lt hNn hj2) hC_ce rfl kw_X4_step_X1 2 (by decide) (List.mem_of_getElem? (i := 1) rfl) (v := .ref (B (kP j))) rfl dX4_step_62 ?_
          refine rr_get C hN (kP j) (kP_lt hNn hj2) hP_ce rfl kw_X4_step_X3 4 (by decide) (List.mem_of_getElem? (i := 2) rfl) (v := .int (u3 (kP j) 4)) rfl dX4_step_65 ?_
          have hE : cu_step n u j = (cu_wrt u j, cu_wrt u j (kP j) 4) := by unfold cu_step; rw [if_pos hAw, if_neg c_30, if_pos c_47, if_neg hHo]
          exact rr_iret C hN dX4_step_68 (by rw [hE, hwt, ← eu3]) (by rw [hE, hwt, ← eu3])
    · refine lv_aload_n hx hb dX4_step_33 rfl (lv_at hl 1 rfl) ?_
      refine lv_aload_n hx hb dX4_step_34 rfl (lv_at hl 0 rfl) ?_
      refine rr_callV (As := [.ref (B (kC j))]) C hN 29 (Nat.lt_of_lt_of_le (by decide) hNB) rfl rfl rfl (ct_X4_stepOfReady l hj2 hNn hn8 hc hrun) gX4_step_X4_stepOfReady rfl rfl rfl 1 (by decide +kernel) ⟨Nat.le_of_ble_eq_true rfl, Nat.le_of_ble_eq_true rfl⟩ rfl hl.1 rfl (Nat.le_of_ble_eq_true rfl) ⟨Nat.zero_le _, Nat.zero_le _⟩ dX4_step_35 (fun H locs hN => ?_)
      obtain ⟨u4, eu4⟩ : ∃ y : ww_U, y = (cu_ready n u j).1 := ⟨_, rfl⟩
      rw [← eu4] at hN
      refine lv_topi (fun v5 ev5 => ?_)
      exact rr_iret C hN dX4_step_38 (by unfold cu_step; rw [if_pos hAw, if_pos c_30]; subst_vars; rfl) (by unfold cu_step; rw [if_pos hAw, if_pos c_30]; subst_vars; rfl)
  · refine lv_bipush (v := (-3)) hx hb dX4_step_19 (by decide) ?_
    exact rr_iret C hN dX4_step_21 (by unfold cu_step; rw [if_neg (by subst_vars; assumption)]) (by unfold cu_step; rw [if_neg (by subst_vars; assumption)])
theorem ct_X4_findOpen1 (l : Launch) {D : va_G} {ca : Nat → ClassId} {B : Nat → Nat} {N n : Nat} {X : va_W} {u : ww_U} (a : Int32) {i : Nat} (hNn : 36 + 8 * n ≤ N) (hn8 : n ≤ 8) (hc : u 29 1 = nI n) (hf : cu_fo n 0 a u = some i) : ww_M l yX4_findOpen wsX4_findOpen ({ frames := 0, cells := 0, slots := 0, locals := 0 } : Room) D ca B N n X u [.ref (B 29), .int a] (some (.ref (B (kP i)))) u := by
  have h := ct_X4_findOpen l (D := D) (ca := ca) (B := B) (X := X) a hNn hn8 hc
  rw [hf] at h
  exact h
theorem ct_X4_findOpen0 (l : Launch) {D : va_G} {ca : Nat → ClassId} {B : Nat → Nat} {N n : Nat} {X : va_W} {u : ww_U} (a : Int32) (hNn : 36 + 8 * n ≤ N) (hn8 : n ≤ 8) (hc : u 29 1 = nI n) (hf : cu_fo n 0 a u = none) : ww_M l yX4_findOpen wsX4_findOpen ({ frames := 0, cells := 0, slots := 0, locals := 0 } : Room) D ca B N n X u [.ref (B 29), .int a] (some .null) u := by
  have h := ct_X4_findOpen l (D := D) (ca := ca) (B := B) (X := X) a hNn hn8 hc
  rw [hf] at h
  exact h
set_option maxHeartbeats 4000000 in
set_option maxRecDepth 100000 in
theorem ct_X4_needs_00 (l : Launch) {D : va_G} {ca : Nat → ClassId} {B : Nat → Nat} {N n : Nat} {X : va_W} {u : ww_U} {y z : Int32} (hn8 : n ≤ 8) (hc : u 29 1 = nI n) (hfa : cu_fo n 0 y u = none) (hfb : cu_fo n 0 z u = none) (hNn : 36 + 8 * n ≤ N)  : ww_M l yX4_needs wsX4_needs ({ frames := 2, cells := 0, slots := 0, locals := 46 } : Room) D ca B N n X u [.ref (B 29), .int y, .int z] (some (.int (cu_needs n u y z).2)) (cu_needs n u y z).1 := by
  refine ww_met (cc := cX4_needs) (maxL := 5) (ret := (some .int)) (by decide) rfl (Nat.le_of_ble_eq_true rfl) ?_
  intro p e s m args below meth c C hN ls hl
  have hl : lv_has ls 5 [(0, .ref (B 29)), (1, .int y), (2, .int z)] := hl
  have hx := C.1.1
  have hb := C.1.2.1
  have hNB : 36 ≤ N := by omega
  have hNN : 29 ≤ N := by omega
  refine lv_aload_n hx hb dX4_needs_0 rfl (lv_at hl 0 rfl) ?_
  refine lv_iload_n hx hb dX4_needs_1 rfl (lv_at hl 1 rfl) ?_
  refine rr_callV (As := [.int y]) C hN 29 (Nat.lt_of_lt_of_le (by decide) hNB) rfl rfl rfl (ct_X4_isPackage l y hNn) gX4_needs_X4_isPackage rfl rfl rfl 1 (by decide +kernel) ⟨Nat.le_of_ble_eq_true rfl, Nat.le_of_ble_eq_true rfl⟩ rfl hl.1 rfl (Nat.le_of_ble_eq_true rfl) ⟨Nat.zero_le _, Nat.zero_le _⟩ dX4_needs_2 (fun H locs hN => ?_)
  refine lv_topi (fun v1 ev1 => ?_)
  refine lv_if_eq (tgt := 16) hx hb dX4_needs_5 (by decide) (fun c_5 => ?_) (fun c_5 => ?_)
  · refine lv_iconst (v := (-1)) hx hb dX4_needs_16 (by decide) ?_
    exact rr_iret C hN dX4_needs_17 (by subst_vars; simp only [cu_needs, hfa, hfb]; first | done | ((repeat' split) <;> first | rfl | contradiction | simp_all)) (by subst_vars; simp only [cu_needs, hfa, hfb]; first | done | ((repeat' split) <;> first | rfl | contradiction | simp_all))
  · refine lv_aload_n hx hb dX4_needs_8 rfl (lv_at hl 0 rfl) ?_
    refine lv_iload_n hx hb dX4_needs_9 rfl (lv_at hl 2 rfl) ?_
    refine rr_callV (As := [.int z]) C hN 29 (Nat.lt_of_lt_of_le (by decide) hNB) rfl rfl rfl (ct_X4_isPackage l z hNn) gX4_needs_X4_isPackage rfl rfl rfl 1 (by decide +kernel) ⟨Nat.le_of_ble_eq_true rfl, Nat.le_of_ble_eq_true rfl⟩ rfl hl.1 rfl (Nat.le_of_ble_eq_true rfl) ⟨Nat.zero_le _, Nat.zero_le _⟩ dX4_needs_10 (fun H locs hN => ?_)
    refine lv_topi (fun v2 ev2 => ?_)
    refine lv_if_ne (tgt := 18) hx hb dX4_needs_13 (by decide) (fun c_13 => ?_) (fun c_13 => ?_)
    · refine lv_iload_n hx hb dX4_needs_18 rfl (lv_at hl 1 rfl) ?_
      refine lv_iload_n hx hb dX4_needs_19 rfl (lv_at hl 2 rfl) ?_
      refine lv_icmp_ne (tgt := 26) hx hb dX4_needs_20 (by decide) (fun c_20 => ?_) (fun c_20 => ?_)
      · refine lv_aload_n hx hb dX4_needs_26 rfl (lv_at hl 0 rfl) ?_
        refine lv_iload_n hx hb dX4_needs_27 rfl (lv_at hl 1 rfl) ?_
        refine rr_callV (As := [.int y]) C hN 29 (Nat.lt_of_lt_of_le (by decide) hNB) rfl rfl rfl (ct_X4_findOpen0 l _ hNn hn8 hc hfa) gX4_needs_X4_findOpen rfl rfl rfl 1 (by decide +kernel) ⟨Nat.le_of_ble_eq_true rfl, Nat.le_of_ble_eq_true rfl⟩ rfl hl.1 rfl (Nat.le_of_ble_eq_true rfl) ⟨Nat.zero_le _, Nat.zero_le _⟩ dX4_needs_28 (fun H locs hN => ?_)
        refine lv_astore_nN (lv' := [(3, .null), (0, .ref (B 29)), (1, .int y), (2, .int z)]) hx hb dX4_needs_31 rfl hl (by decide) rfl (fun ls hl => ?_)
        refine lv_aload_n hx hb dX4_needs_32 rfl (lv_at hl 1 rfl) ?_
        refine lv_iload_n hx hb dX4_needs_33 rfl (lv_at hl 3 rfl) ?_
        refine rr_callV (As := [.int z]) C hN 29 (Nat.lt_of_lt_of_le (by decide) hNB) rfl rfl rfl (ct_X4_findOpen0 l _ hNn hn8 hc hfb) gX4_needs_X4_findOpen rfl rfl rfl 1 (by decide +kernel) ⟨Nat.le_of_ble_eq_true rfl, Nat.le_of_ble_eq_true rfl⟩ rfl hl.1 rfl (Nat.le_of_ble_eq_true rfl) ⟨Nat.zero_le _, Nat.zero_le _⟩ dX4_needs_34 (fun H locs hN => ?_)
        refine lv_astoreN (lv' := [(4, .null), (3, .null), (0, .ref (B 29)), (1, .int y), (2, .int z)]) hx hb dX4_needs_37 hl (by decide) rfl (fun ls hl => ?_)
        refine lv_aload_nN hx hb dX4_needs_39 rfl (lv_at hl 1 rfl) ?_
        refine lv_ifnullN (tgt := 63) hx hb dX4_needs_40 (by decide) ?_
        refine lv_bipush (v := (-3)) hx hb dX4_needs_63 (by decide) ?_
        exact rr_iret C hN dX4_needs_65 (by subst_vars; simp only [cu_needs, hfa, hfb]; first | done | ((repeat' split) <;> first | rfl | contradiction | simp_all)) (by subst_vars; simp only [cu_needs, hfa, hfb]; first | done | ((repeat' split) <;> first | rfl | contradiction | simp_all))
      · refine lv_bipush (v := (-2)) hx hb dX4_needs_23 (by decide) ?_
        exact rr_iret C hN dX4_needs_25 (by subst_vars; simp only [cu_needs, hfa, hfb]; first | done | ((repeat' split) <;> first | rfl | contradiction | simp_all)) (by subst_vars; simp only [cu_needs, hfa, hfb]; first | done | ((repeat' split) <;> first | rfl | contradiction | simp_all))
    · refine lv_iconst (v := (-1)) hx hb dX4_needs_16 (by decide) ?_
      exact rr_iret C hN dX4_needs_17 (by subst_vars; simp only [cu_needs, hfa, hfb]; first | done | ((repeat' split) <;> first | rfl | contradiction | simp_all)) (by subst_vars; simp only [cu_needs, hfa, hfb]; first | done | ((repeat' split) <;> first | rfl | contradiction | simp_all))
set_option maxHeartbeats 4000000 in
set_option maxRecDepth 100000 in
theorem ct_X4_needs_01 (l : Launch) {D : va_G} {ca : Nat → ClassId} {B : Nat → Nat} {N n : Nat} {X : va_W} {u : ww_U} {y z : Int32} {j : Nat} (hj : j < n) (hn8 : n ≤ 8) (hc : u 29 1 = nI n) (hfa : cu_fo n 0 y u = none) (hfb : cu_fo n 0 z u = some j) (hNn : 36 + 8 * n ≤ N)  : ww_M l yX4_needs wsX4_needs ({ frames := 2, cells := 0, slots := 0, locals := 46 } : Room) D ca B N n X u [.ref (B 29), .int y, .int z] (some (.int (cu_needs n u y z).2)) (cu_needs n u y z).1 := by
  refine ww_met (cc := cX4_needs) (maxL := 5) (ret := (some .int)) (by decide) rfl (Nat.le_of_ble_eq_true rfl) ?_
  intro p e s m args below meth c C hN ls hl
  have hl : lv_has ls 5 [(0, .ref (B 29)), (1, .int y), (2, .int z)] := hl
  have hx := C.1.1
  have hb := C.1.2.1
  have hNB : 36 ≤ N := by omega
  have hNN : 29 ≤ N := by omega
  refine lv_aload_n hx hb dX4_needs_0 rfl (lv_at hl 0 rfl) ?_
  refine lv_iload_n hx hb dX4_needs_1 rfl (lv_at hl 1 rfl) ?_
  refine rr_callV (As := [.int y]) C hN 29 (Nat.lt_of_lt_of_le (by decide) hNB) rfl rfl rfl (ct_X4_isPackage l y hNn) gX4_needs_X4_isPackage rfl rfl rfl 1 (by decide +kernel) ⟨Nat.le_of_ble_eq_true rfl, Nat.le_of_ble_eq_true rfl⟩ rfl hl.1 rfl (Nat.le_of_ble_eq_true rfl) ⟨Nat.zero_le _, Nat.zero_le _⟩ dX4_needs_2 (fun H locs hN => ?_)
  refine lv_topi (fun v1 ev1 => ?_)
  refine lv_if_eq (tgt := 16) hx hb dX4_needs_5 (by decide) (fun c_5 => ?_) (fun c_5 => ?_)
  · refine lv_iconst (v := (-1)) hx hb dX4_needs_16 (by decide) ?_
    exact rr_iret C hN dX4_needs_17 (by subst_vars; simp only [cu_needs, hfa, hfb]; first | done | ((repeat' split) <;> first | rfl | contradiction | simp_all)) (by subst_vars; simp only [cu_needs, hfa, hfb]; first | done | ((repeat' split) <;> first | rfl | contradiction | simp_all))
  · refine lv_aload_n hx hb dX4_needs_8 rfl (lv_at hl 0 rfl) ?_
    refine lv_iload_n hx hb dX4_needs_9 rfl (lv_at hl 2 rfl) ?_
    refine rr_callV (As := [.int z]) C hN 29 (Nat.lt_of_lt_of_le (by decide) hNB) rfl rfl rfl (ct_X4_isPackage l z hNn) gX4_needs_X4_isPackage rfl rfl rfl 1 (by decide +kernel) ⟨Nat.le_of_ble_eq_true rfl, Nat.le_of_ble_eq_true rfl⟩ rfl hl.1 rfl (Nat.le_of_ble_eq_true rfl) ⟨Nat.zero_le _, Nat.zero_le _⟩ dX4_needs_10 (fun H locs hN => ?_)
    refine lv_topi (fun v2 ev2 => ?_)
    refine lv_if_ne (tgt := 18) hx hb dX4_needs_13 (by decide) (fun c_13 => ?_) (fun c_13 => ?_)
    · refine lv_iload_n hx hb dX4_needs_18 rfl (lv_at hl 1 rfl) ?_
      refine lv_iload_n hx hb dX4_needs_19 rfl (lv_at hl 2 rfl) ?_
      refine lv_icmp_ne (tgt := 26) hx hb dX4_needs_20 (by decide) (fun c_20 => ?_) (fun c_20 => ?_)
      · refine lv_aload_n hx hb dX4_needs_26 rfl (lv_at hl 0 rfl) ?_
        refine lv_iload_n hx hb dX4_needs_27 rfl (lv_at hl 1 rfl) ?_
        refine rr_callV (As := [.int y]) C hN 29 (Nat.lt_of_lt_of_le (by decide) hNB) rfl rfl rfl (ct_X4_findOpen0 l _ hNn hn8 hc hfa) gX4_needs_X4_findOpen rfl rfl rfl 1 (by decide +kernel) ⟨Nat.le_of_ble_eq_true rfl, Nat.le_of_ble_eq_true rfl⟩ rfl hl.1 rfl (Nat.le_of_ble_eq_true rfl) ⟨Nat.zero_le _, Nat.zero_le _⟩ dX4_needs_28 (fun H locs hN => ?_)
        refine lv_astore_nN (lv' := [(3, .null), (0, .ref (B 29)), (1, .int y), (2, .int z)]) hx hb dX4_needs_31 rfl hl (by decide) rfl (fun ls hl => ?_)
        refine lv_aload_n hx hb dX4_needs_32 rfl (lv_at hl 1 rfl) ?_
        refine lv_iload_n hx hb dX4_needs_33 rfl (lv_at hl 3 rfl) ?_
        refine rr_callV (As := [.int z]) C hN 29 (Nat.lt_of_lt_of_le (by decide) hNB) rfl rfl rfl (ct_X4_findOpen1 l _ hNn hn8 hc hfb) gX4_needs_X4_findOpen rfl rfl rfl 1 (by decide +kernel) ⟨Nat.le_of_ble_eq_true rfl, Nat.le_of_ble_eq_true rfl⟩ rfl hl.1 rfl (Nat.le_of_ble_eq_true rfl) ⟨Nat.zero_le _, Nat.zero_le _⟩ dX4_needs_34 (fun H locs hN => ?_)
        refine lv_astore (lv' := [(4, .ref (B (kP j))), (3, .null), (0, .ref (B 29)), (1, .int y), (2, .int z)]) hx hb dX4_needs_37 hl (by decide) rfl (fun ls hl => ?_)
        refine lv_aload_nN hx hb dX4_needs_39 rfl (lv_at hl 1 rfl) ?_
        refine lv_ifnullN (tgt := 63) hx hb dX4_needs_40 (by decide) ?_
        refine lv_bipush (v := (-3)) hx hb dX4_needs_63 (by decide) ?_
        exact rr_iret C hN dX4_needs_65 (by subst_vars; simp only [cu_needs, hfa, hfb]; first | done | ((repeat' split) <;> first | rfl | contradiction | simp_all)) (by subst_vars; simp only [cu_needs, hfa, hfb]; first | done | ((repeat' split) <;> first | rfl | contradiction | simp_all))
      · refine lv_bipush (v := (-2)) hx hb dX4_needs_23 (by decide) ?_
        exact rr_iret C hN dX4_needs_25 (by subst_vars; simp only [cu_needs, hfa, hfb]; first | done | ((repeat' split) <;> first | rfl | contradiction | simp_all)) (by subst_vars; simp only [cu_needs, hfa, hfb]; first | done | ((repeat' split) <;> first | rfl | contradiction | simp_all))
    · refine lv_iconst (v := (-1)) hx hb dX4_needs_16 (by decide) ?_
      exact rr_iret C hN dX4_needs_17 (by subst_vars; simp only [cu_needs, hfa, hfb]; first | done | ((repeat' split) <;> first | rfl | contradiction | simp_all)) (by subst_vars; simp only [cu_needs, hfa, hfb]; first | done | ((repeat' split) <;> first | rfl | contradiction | simp_all))
set_option maxHeartbeats 4000000 in
set_option maxRecDepth 100000 in
theorem ct_X4_needs_10 (l : Launch) {D : va_G} {ca : Nat → ClassId} {B : Nat → Nat} {N n : Nat} {X : va_W} {u : ww_U} {y z : Int32} {i : Nat} (hi : i < n) (hn8 : n ≤ 8) (hc : u 29 1 = nI n) (hfa : cu_fo n 0 y u = some i) (hfb : cu_fo n 0 z u = none) (hNn : 36 + 8 * n ≤ N)  : ww_M l yX4_needs wsX4_needs ({ frames := 2, cells := 0, slots := 0, locals := 46 } : Room) D ca B N n X u [.ref (B 29), .int y, .int z] (some (.int (cu_needs n u y z).2)) (cu_needs n u y z).1 := by
  refine ww_met (cc := cX4_needs) (maxL := 5) (ret := (some .int)) (by decide) rfl (Nat.le_of_ble_eq_true rfl) ?_
  intro p e s m args below meth c C hN ls hl
  have hl : lv_has ls 5 [(0, .ref (B 29)), (1, .int y), (2, .int z)] := hl
  have hx := C.1.1
  have hb := C.1.2.1
  have hNB : 36 ≤ N := by omega
  have hNN : 29 ≤ N := by omega
  refine lv_aload_n hx hb dX4_needs_0 rfl (lv_at hl 0 rfl) ?_
  refine lv_iload_n hx hb dX4_needs_1 rfl (lv_at hl 1 rfl) ?_
  refine rr_callV (As := [.int y]) C hN 29 (Nat.lt_of_lt_of_le (by decide) hNB) rfl rfl rfl (ct_X4_isPackage l y hNn) gX4_needs_X4_isPackage rfl rfl rfl 1 (by decide +kernel) ⟨Nat.le_of_ble_eq_true rfl, Nat.le_of_ble_eq_true rfl⟩ rfl hl.1 rfl (Nat.le_of_ble_eq_true rfl) ⟨Nat.zero_le _, Nat.zero_le _⟩ dX4_needs_2 (fun H locs hN => ?_)
  refine lv_topi (fun v1 ev1 => ?_)
  refine lv_if_eq (tgt := 16) hx hb dX4_needs_5 (by decide) (fun c_5 => ?_) (fun c_5 => ?_)
  · refine lv_iconst (v := (-1)) hx hb dX4_needs_16 (by decide) ?_
    exact rr_iret C hN dX4_needs_17 (by subst_vars; simp only [cu_needs, hfa, hfb]; first | done | ((repeat' split) <;> first | rfl | contradiction | simp_all)) (by subst_vars; simp only [cu_needs, hfa, hfb]; first | done | ((repeat' split) <;> first | rfl | contradiction | simp_all))
  · refine lv_aload_n hx hb dX4_needs_8 rfl (lv_at hl 0 rfl) ?_
    refine lv_iload_n hx hb dX4_needs_9 rfl (lv_at hl 2 rfl) ?_
    refine rr_callV (As := [.int z]) C hN 29 (Nat.lt_of_lt_of_le (by decide) hNB) rfl rfl rfl (ct_X4_isPackage l z hNn) gX4_needs_X4_isPackage rfl rfl rfl 1 (by decide +kernel) ⟨Nat.le_of_ble_eq_true rfl, Nat.le_of_ble_eq_true rfl⟩ rfl hl.1 rfl (Nat.le_of_ble_eq_true rfl) ⟨Nat.zero_le _, Nat.zero_le _⟩ dX4_needs_10 (fun H locs hN => ?_)
    refine lv_topi (fun v2 ev2 => ?_)
    refine lv_if_ne (tgt := 18) hx hb dX4_needs_13 (by decide) (fun c_13 => ?_) (fun c_13 => ?_)
    · refine lv_iload_n hx hb dX4_needs_18 rfl (lv_at hl 1 rfl) ?_
      refine lv_iload_n hx hb dX4_needs_19 rfl (lv_at hl 2 rfl) ?_
      refine lv_icmp_ne (tgt := 26) hx hb dX4_needs_20 (by decide) (fun c_20 => ?_) (fun c_20 => ?_)
      · refine lv_aload_n hx hb dX4_needs_26 rfl (lv_at hl 0 rfl) ?_
        refine lv_iload_n hx hb dX4_needs_27 rfl (lv_at hl 1 rfl) ?_
        refine rr_callV (As := [.int y]) C hN 29 (Nat.lt_of_lt_of_le (by decide) hNB) rfl rfl rfl (ct_X4_findOpen1 l _ hNn hn8 hc hfa) gX4_needs_X4_findOpen rfl rfl rfl 1 (by decide +kernel) ⟨Nat.le_of_ble_eq_true rfl, Nat.le_of_ble_eq_true rfl⟩ rfl hl.1 rfl (Nat.le_of_ble_eq_true rfl) ⟨Nat.zero_le _, Nat.zero_le _⟩ dX4_needs_28 (fun H locs hN => ?_)
        refine lv_astore_n (lv' := [(3, .ref (B (kP i))), (0, .ref (B 29)), (1, .int y), (2, .int z)]) hx hb dX4_needs_31 rfl hl (by decide) rfl (fun ls hl => ?_)
        refine lv_aload_n hx hb dX4_needs_32 rfl (lv_at hl 1 rfl) ?_
        refine lv_iload_n hx hb dX4_needs_33 rfl (lv_at hl 3 rfl) ?_
        refine rr_callV (As := [.int z]) C hN 29 (Nat.lt_of_lt_of_le (by decide) hNB) rfl rfl rfl (ct_X4_findOpen0 l _ hNn hn8 hc hfb) gX4_needs_X4_findOpen rfl rfl rfl 1 (by decide +kernel) ⟨Nat.le_of_ble_eq_true rfl, Nat.le_of_ble_eq_true rfl⟩ rfl hl.1 rfl (Nat.le_of_ble_eq_true rfl) ⟨Nat.zero_le _, Nat.zero_le _⟩ dX4_needs_34 (fun H locs hN => ?_)
        refine lv_astoreN (lv' := [(4, .null), (3, .ref (B (kP i))), (0, .ref (B 29)), (1, .int y), (2, .int z)]) hx hb dX4_needs_37 hl (by decide) rfl (fun ls hl => ?_)
        refine lv_aload_n hx hb dX4_needs_39 rfl (lv_at hl 1 rfl) ?_
        refine lv_ifnull hx hb dX4_needs_40 ?_
        refine lv_aloadN hx hb dX4_needs_43 (lv_at hl 0 rfl) ?_
        refine lv_ifnullN (tgt := 63) hx hb dX4_needs_45 (by decide) ?_
        refine lv_bipush (v := (-3)) hx hb dX4_needs_63 (by decide) ?_
        exact rr_iret C hN dX4_needs_65 (by subst_vars; simp only [cu_needs, hfa, hfb]; first | done | ((repeat' split) <;> first | rfl | contradiction | simp_all)) (by subst_vars; simp only [cu_needs, hfa, hfb]; first | done | ((repeat' split) <;> first | rfl | contradiction | simp_all))
      · refine lv_bipush (v := (-2)) hx hb dX4_needs_23 (by decide) ?_
        exact rr_iret C hN dX4_needs_25 (by subst_vars; simp only [cu_needs, hfa, hfb]; first | done | ((repeat' split) <;> first | rfl | contradiction | simp_all)) (by subst_vars; simp only [cu_needs, hfa, hfb]; first | done | ((repeat' split) <;> first | rfl | contradiction | simp_all))
    · refine lv_iconst (v := (-1)) hx hb dX4_needs_16 (by decide) ?_
      exact rr_iret C hN dX4_needs_17 (by subst_vars; simp only [cu_needs, hfa, hfb]; first | done | ((repeat' split) <;> first | rfl | contradiction | simp_all)) (by subst_vars; simp only [cu_needs, hfa, hfb]; first | done | ((repeat' split) <;> first | rfl | contradiction | simp_all))
set_option maxRecDepth 20000 in
theorem kw_X4_needs_X3 : ww_K wsX4_needs RX3 TX3 8 tyX3 := ⟨by decide +kernel, tyX3_ok, nmX3⟩
set_option maxHeartbeats 4000000 in
set_option maxRecDepth 100000 in
theorem ct_X4_needs_11 (l : Launch) {D : va_G} {ca : Nat → ClassId} {B : Nat → Nat} {N n : Nat} {X : va_W} {u : ww_U} {y z : Int32} {i : Nat} (hi : i < n) {j : Nat} (hj : j < n) (hn8 : n ≤ 8) (hc : u 29 1 = nI n) (hfa : cu_fo n 0 y u = some i) (hfb : cu_fo n 0 z u = some j) (hNn : 36 + 8 * n ≤ N)  : ww_M l yX4_needs wsX4_needs ({ frames := 2, cells := 0, slots := 0, locals := 46 } : Room) D ca B N n X u [.ref (B 29), .int y, .int z] (some (.int (cu_needs n u y z).2)) (cu_needs n u y z).1 := by
  refine ww_met (cc := cX4_needs) (maxL := 5) (ret := (some .int)) (by decide) rfl (Nat.le_of_ble_eq_true rfl) ?_
  intro p e s m args below meth c C hN ls hl
  have hl : lv_has ls 5 [(0, .ref (B 29)), (1, .int y), (2, .int z)] := hl
  have hx := C.1.1
  have hb := C.1.2.1
  have hNB : 36 ≤ N := by omega
  have hNN : 29 ≤ N := by omega
  refine lv_aload_n hx hb dX4_needs_0 rfl (lv_at hl 0 rfl) ?_
  refine lv_iload_n hx hb dX4_needs_1 rfl (lv_at hl 1 rfl) ?_
  refine rr_callV (As := [.int y]) C hN 29 (Nat.lt_of_lt_of_le (by decide) hNB) rfl rfl rfl (ct_X4_isPackage l y hNn) gX4_needs_X4_isPackage rfl rfl rfl 1 (by decide +kernel) ⟨Nat.le_of_ble_eq_true rfl, Nat.le_of_ble_eq_true rfl⟩ rfl hl.1 rfl (Nat.le_of_ble_eq_true rfl) ⟨Nat.zero_le _, Nat.zero_le _⟩ dX4_needs_2 (fun H locs hN => ?_)
  refine lv_topi (fun v1 ev1 => ?_)
  refine lv_if_eq (tgt := 16) hx hb dX4_needs_5 (by decide) (fun c_5 => ?_) (fun c_5 => ?_)
  · refine lv_iconst (v := (-1)) hx hb dX4_needs_16 (by decide) ?_
    exact rr_iret C hN dX4_needs_17 (by subst_vars; simp only [cu_needs, hfa, hfb]; first | done | ((repeat' split) <;> first | rfl | contradiction | simp_all)) (by subst_vars; simp only [cu_needs, hfa, hfb]; first | done | ((repeat' split) <;> first | rfl | contradiction | simp_all))
  · refine lv_aload_n hx hb dX4_needs_8 rfl (lv_at hl 0 rfl) ?_
    refine lv_iload_n hx hb dX4_needs_9 rfl (lv_at hl 2 rfl) ?_
    refine rr_callV (As := [.int z]) C hN 29 (Nat.lt_of_lt_of_le (by decide) hNB) rfl rfl rfl (ct_X4_isPackage l z hNn) gX4_needs_X4_isPackage rfl rfl rfl 1 (by decide +kernel) ⟨Nat.le_of_ble_eq_true rfl, Nat.le_of_ble_eq_true rfl⟩ rfl hl.1 rfl (Nat.le_of_ble_eq_true rfl) ⟨Nat.zero_le _, Nat.zero_le _⟩ dX4_needs_10 (fun H locs hN => ?_)
    refine lv_topi (fun v2 ev2 => ?_)
    refine lv_if_ne (tgt := 18) hx hb dX4_needs_13 (by decide) (fun c_13 => ?_) (fun c_13 => ?_)
    · refine lv_iload_n hx hb dX4_needs_18 rfl (lv_at hl 1 rfl) ?_
      refine lv_iload_n hx hb dX4_needs_19 rfl (lv_at hl 2 rfl) ?_
      refine lv_icmp_ne (tgt := 26) hx hb dX4_needs_20 (by decide) (fun c_20 => ?_) (fun c_20 => ?_)
      · refine lv_aload_n hx hb dX4_needs_26 rfl (lv_at hl 0 rfl) ?_
        refine lv_iload_n hx hb dX4_needs_27 rfl (lv_at hl 1 rfl) ?_
        refine rr_callV (As := [.int y]) C hN 29 (Nat.lt_of_lt_of_le (by decide) hNB) rfl rfl rfl (ct_X4_findOpen1 l _ hNn hn8 hc hfa) gX4_needs_X4_findOpen rfl rfl rfl 1 (by decide +kernel) ⟨Nat.le_of_ble_eq_true rfl, Nat.le_of_ble_eq_true rfl⟩ rfl hl.1 rfl (Nat.le_of_ble_eq_true rfl) ⟨Nat.zero_le _, Nat.zero_le _⟩ dX4_needs_28 (fun H locs hN => ?_)
        refine lv_astore_n (lv' := [(3, .ref (B (kP i))), (0, .ref (B 29)), (1, .int y), (2, .int z)]) hx hb dX4_needs_31 rfl hl (by decide) rfl (fun ls hl => ?_)
        refine lv_aload_n hx hb dX4_needs_32 rfl (lv_at hl 1 rfl) ?_
        refine lv_iload_n hx hb dX4_needs_33 rfl (lv_at hl 3 rfl) ?_
        refine rr_callV (As := [.int z]) C hN 29 (Nat.lt_of_lt_of_le (by decide) hNB) rfl rfl rfl (ct_X4_findOpen1 l _ hNn hn8 hc hfb) gX4_needs_X4_findOpen rfl rfl rfl 1 (by decide +kernel) ⟨Nat.le_of_ble_eq_true rfl, Nat.le_of_ble_eq_true rfl⟩ rfl hl.1 rfl (Nat.le_of_ble_eq_true rfl) ⟨Nat.zero_le _, Nat.zero_le _⟩ dX4_needs_34 (fun H locs hN => ?_)
        refine lv_astore (lv' := [(4, .ref (B (kP j))), (3, .ref (B (kP i))), (0, .ref (B 29)), (1, .int y), (2, .int z)]) hx hb dX4_needs_37 hl (by decide) rfl (fun ls hl => ?_)
        refine lv_aload_n hx hb dX4_needs_39 rfl (lv_at hl 1 rfl) ?_
        refine lv_ifnull hx hb dX4_needs_40 ?_
        refine lv_aload hx hb dX4_needs_43 (lv_at hl 0 rfl) ?_
        refine lv_ifnull hx hb dX4_needs_45 ?_
        refine lv_aload_n hx hb dX4_needs_48 rfl (lv_at hl 1 rfl) ?_
        refine rr_get C hN (kP i) (kP_lt hNn hi) hP_ce rfl kw_X4_needs_X3 7 (by decide) (List.mem_of_getElem? (i := 1) rfl) (v := .int (u (kP i) 7)) rfl dX4_needs_49 ?_
        refine lv_if_ne (tgt := 63) hx hb dX4_needs_52 (by decide) (fun c_52 => ?_) (fun c_52 => ?_)
        · refine lv_bipush (v := (-3)) hx hb dX4_needs_63 (by decide) ?_
          exact rr_iret C hN dX4_needs_65 (by subst_vars; simp only [cu_needs, hfa, hfb]; first | done | ((repeat' split) <;> first | rfl | contradiction | simp_all)) (by subst_vars; simp only [cu_needs, hfa, hfb]; first | done | ((repeat' split) <;> first | rfl | contradiction | simp_all))
        · refine lv_aload hx hb dX4_needs_55 (lv_at hl 0 rfl) ?_
          refine rr_get C hN (kP j) (kP_lt hNn hj) hP_ce rfl kw_X4_needs_X3 7 (by decide) (List.mem_of_getElem? (i := 1) rfl) (v := .int (u (kP j) 7)) rfl dX4_needs_57 ?_
          refine lv_if_eq (tgt := 66) hx hb dX4_needs_60 (by decide) (fun c_60 => ?_) (fun c_60 => ?_)
          · refine lv_aload_n hx hb dX4_needs_66 rfl (lv_at hl 2 rfl) ?_
            refine lv_aload_n hx hb dX4_needs_67 rfl (lv_at hl 1 rfl) ?_
            refine rr_get C hN (kP i) (kP_lt hNn hi) hP_ce rfl kw_X4_needs_X3 6 (by decide) (List.mem_of_getElem? (i := 2) rfl) (v := .int (u (kP i) 6)) rfl dX4_needs_68 ?_
            refine lv_aload hx hb dX4_needs_71 (lv_at hl 0 rfl) ?_
            refine rr_get C hN (kP j) (kP_lt hNn hj) hP_ce rfl kw_X4_needs_X3 6 (by decide) (List.mem_of_getElem? (i := 2) rfl) (v := .int (u (kP j) 6)) rfl dX4_needs_73 ?_
            refine rr_callV (As := [.int (u (kP i) 6), .int (u (kP j) 6)]) C hN 29 (Nat.lt_of_lt_of_le (by decide) hNB) rfl rfl rfl (ct_X4_joinSets l (u (kP i) 6) (u (kP j) 6) hNn hn8 hc) gX4_needs_X4_joinSets rfl rfl rfl 2 (by decide +kernel) ⟨Nat.le_of_ble_eq_true rfl, Nat.le_of_ble_eq_true rfl⟩ rfl hl.1 rfl (Nat.le_of_ble_eq_true rfl) ⟨Nat.zero_le _, Nat.zero_le _⟩ dX4_needs_76 (fun H locs hN => ?_)
            obtain ⟨u3, eu3⟩ : ∃ y : ww_U, y = (cu_join n 0 (u (kP i) 6) (u (kP j) 6) u 0).1 := ⟨_, rfl⟩
            rw [← eu3] at hN
            refine lv_topi (fun v4 ev4 => ?_)
            exact rr_iret C hN dX4_needs_79 (by subst_vars; simp only [cu_needs, hfa, hfb]; first | done | ((repeat' split) <;> first | rfl | contradiction | simp_all)) (by subst_vars; simp only [cu_needs, hfa, hfb]; first | done | ((repeat' split) <;> first | rfl | contradiction | simp_all))
          · refine lv_bipush (v := (-3)) hx hb dX4_needs_63 (by decide) ?_
            exact rr_iret C hN dX4_needs_65 (by subst_vars; simp only [cu_needs, hfa, hfb]; first | done | ((repeat' split) <;> first | rfl | contradiction | simp_all)) (by subst_vars; simp only [cu_needs, hfa, hfb]; first | done | ((repeat' split) <;> first | rfl | contradiction | simp_all))
      · refine lv_bipush (v := (-2)) hx hb dX4_needs_23 (by decide) ?_
        exact rr_iret C hN dX4_needs_25 (by subst_vars; simp only [cu_needs, hfa, hfb]; first | done | ((repeat' split) <;> first | rfl | contradiction | simp_all)) (by subst_vars; simp only [cu_needs, hfa, hfb]; first | done | ((repeat' split) <;> first | rfl | contradiction | simp_all))
    · refine lv_iconst (v := (-1)) hx hb dX4_needs_16 (by decide) ?_
      exact rr_iret C hN dX4_needs_17 (by subst_vars; simp only [cu_needs, hfa, hfb]; first | done | ((repeat' split) <;> first | rfl | contradiction | simp_all)) (by subst_vars; simp only [cu_needs, hfa, hfb]; first | done | ((repeat' split) <;> first | rfl | contradiction | simp_all))
theorem ct_X4_needs (l : Launch) {D : va_G} {ca : Nat → ClassId} {B : Nat → Nat} {N n : Nat} {X : va_W} {u : ww_U} (y z : Int32) (hNn : 36 + 8 * n ≤ N) (hn8 : n ≤ 8) (hc : u 29 1 = nI n) : ww_M l yX4_needs wsX4_needs ({ frames := 2, cells := 0, slots := 0, locals := 46 } : Room) D ca B N n X u [.ref (B 29), .int y, .int z] (some (.int (cu_needs n u y z).2)) (cu_needs n u y z).1 := by
  cases hfa : cu_fo n 0 y u with
  | none =>
    cases hfb : cu_fo n 0 z u with
    | none => exact ct_X4_needs_00 l hn8 hc hfa hfb hNn
    | some j => exact ct_X4_needs_01 l (cu_fo_lt (by omega) hfb) hn8 hc hfa hfb hNn
  | some i =>
    cases hfb : cu_fo n 0 z u with
    | none => exact ct_X4_needs_10 l (cu_fo_lt (by omega) hfa) hn8 hc hfa hfb hNn
    | some j => exact ct_X4_needs_11 l (cu_fo_lt (by omega) hfa) (cu_fo_lt (by omega) hfb) hn8 hc hfa hfb hNn
