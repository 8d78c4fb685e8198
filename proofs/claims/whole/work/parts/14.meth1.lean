def cu_run (n : Nat) (u : ww_U) : Prop := ∀ i, i < n → ∃ b, b < 2 ∧ u (kC i) 3 = nI b
theorem cu_other_ne {u : ww_U} {i a : Nat} (h : a ≠ kC i) : cu_other u i a = u a := by unfold cu_other; rw [ww_up_ne h, ww_up_ne h]
theorem cu_other_j {u : ww_U} {i j : Nat} (h3 : j ≠ 3) (h4 : j ≠ 4) : cu_other u i (kC i) j = u (kC i) j := by unfold cu_other; rw [ww_up_nj h4, ww_up_nj h3]
theorem cu_other_3 {u : ww_U} {i : Nat} : cu_other u i (kC i) 3 = 1 - u (kC i) 3 := by unfold cu_other; rw [ww_up_nj (by decide), ww_up_self]
theorem cu_b_of {u : ww_U} {i b : Nat} (hb : b < 2) (h : u (kC i) 3 = nI b) : cu_b u i = b := by unfold cu_b; rw [h]; exact nI_clamp (by omega)
theorem cu_run_other {n k : Nat} {u : ww_U} (h : cu_run n u) (hk : k < n) : cu_run n (cu_other u k) := by
  intro i hi
  obtain ⟨b, hb, e⟩ := h i hi
  by_cases hik : i = k
  · subst hik
    exact ⟨1 - b, by omega, by rw [cu_other_3, e]; exact nI_sub1 hb⟩
  · exact ⟨b, hb, by rw [cu_other_ne (by simp only [kC]; omega)]; exact e⟩
theorem cu_run_up {n k j : Nat} {u : ww_U} {x : Int32} (h : cu_run n u) (hj : j ≠ 3) : cu_run n (ww_up u k j x) := by
  intro i hi
  obtain ⟨b, hb, e⟩ := h i hi
  refine ⟨b, hb, ?_⟩
  by_cases hk : kC i = k
  · subst hk
    rw [ww_up_nj hj.symm]; exact e
  · rw [ww_up_ne hk]; exact e

set_option maxRecDepth 20000 in
theorem kw_X4_joint_X4 : ww_K wsX4_joint RX4 TX4 8 tyX4 := ⟨by decide +kernel, tyX4_ok, nmX4⟩
set_option maxRecDepth 20000 in
theorem kw_X4_joint_X0 : ww_K wsX4_joint RX0 TX0 3 tyX0 := ⟨by decide +kernel, tyX0_ok, nmX0⟩
set_option maxRecDepth 20000 in
theorem kw_X4_joint_X1 : ww_K wsX4_joint RX1 TX1 10 tyX1 := ⟨by decide +kernel, tyX1_ok, nmX1⟩
set_option maxHeartbeats 4000000 in
set_option maxRecDepth 100000 in
theorem lp_X4_joint {p : Program} {l : Launch} {e : Env} {s : State} {m : MethodId} {args : Array Value} {below : List Frame} {meth : Method} {c : Code} {D : va_G} {ca : Nat → ClassId} {B : Nat → Nat} {N n : Nat} {X : va_W} (C : ww_C D ca yX4_joint.cls cX4_joint 3 wsX4_joint (some .int) (ww_A B N X s.heap.size) p s m args meth c) (hNn : 36 + 8 * n ≤ N)  (hn8 : n ≤ 8)  {r : Option Value} {u' : ww_U} : ∀ (d k : Nat) (x : Int32) (u : ww_U), k + d = n → (u 29 1 = nI n) → (x = nI k) → (cu_run n u) → r = some (.int (cu_jt d k u)) → u' = u → ∀ (H : Heap) (locs : List Loc) (ls : Array Slot), ww_N D ca B N n u X (ww_A B N X s.heap.size) s.heap H locs → lv_has ls 3 [(0, .ref (B 29)), (1, .int x)] → W p l e (headSpec wsX4_joint ({ frames := 2, cells := 0, slots := 0, locals := 41 } : Room)).room s m args below meth c H locs 0 0 (MQ below (ww_Q D ca B N n X s.heap.size r u') args s 0 0 (ww_A B N X s.heap.size)) (F0 m 11 ls []) := by
  have hx := C.1.1
  have hb := C.1.2.1
  have hNB : 36 ≤ N := by omega
  have hNN : 29 ≤ N := by omega
  intro d
  induction d with
  | zero =>
    intro k x u hkd hc hxk hrun hr hu H locs ls hN hl
    refine lv_iload_n hx hb dX4_joint_11 rfl (lv_at hl 1 rfl) ?_
    refine lv_aload_n hx hb dX4_joint_12 rfl (lv_at hl 0 rfl) ?_
    refine rr_get C hN 29 (Nat.lt_of_lt_of_le (by decide) hNB) rfl rfl kw_X4_joint_X4 1 (by decide) (List.mem_of_getElem? (i := 1) rfl) (v := .int (u 29 1)) rfl dX4_joint_13 ?_
    refine lv_icmp_ge (tgt := 55) hx hb dX4_joint_16 (by decide) (fun c_16 => ?_) (fun c_16 => absurd c_16 (fun h => h (by rw [hc, hxk, show k = n by omega]; exact nI_le (Nat.le_refl _) (by omega))))
    refine lv_iconst (v := 1) hx hb dX4_joint_55 (by decide) ?_
    exact rr_iret C hN dX4_joint_56 hr hu
  | succ d ih =>
    intro k x u hkd hc hxk hrun hr hu H locs ls hN hl
    have hkn : k < n := by omega
    obtain ⟨b, hb2, hbe⟩ := hrun k hkn
    have hcb : cu_b u k = b := cu_b_of hb2 hbe
    refine lv_iload_n hx hb dX4_joint_11 rfl (lv_at hl 1 rfl) ?_
    refine lv_aload_n hx hb dX4_joint_12 rfl (lv_at hl 0 rfl) ?_
    refine rr_get C hN 29 (Nat.lt_of_lt_of_le (by decide) hNB) rfl rfl kw_X4_joint_X4 1 (by decide) (List.mem_of_getElem? (i := 1) rfl) (v := .int (u 29 1)) rfl dX4_joint_13 ?_
    refine lv_icmp_ge (tgt := 55) hx hb dX4_joint_16 (by decide) (fun c_16 => absurd c_16 (by rw [hc, hxk]; exact nI_ge (by omega) (by omega))) (fun c_16 => ?_)
    refine lv_aload_n hx hb dX4_joint_19 rfl (lv_at hl 0 rfl) ?_
    refine rr_get C hN 29 (Nat.lt_of_lt_of_le (by decide) hNB) rfl rfl kw_X4_joint_X4 0 (by decide) (List.mem_of_getElem? (i := 2) rfl) (v := .ref (B 30)) rfl dX4_joint_20 ?_
    refine lv_iload_n hx hb dX4_joint_23 rfl (lv_at hl 1 rfl) ?_
    refine rr_ald C hN 30 (Nat.lt_of_lt_of_le (by decide) hNB) 3 rfl rfl (by decide) k (by omega) hxk (v := .ref (B (kC k))) (by simp only [if_pos hkn]; rfl) dX4_joint_24 ?_
    refine lv_astore_n (lv' := [(2, .ref (B (kC k))), (0, .ref (B 29)), (1, .int x)]) hx hb dX4_joint_25 rfl hl (by decide) rfl (fun ls hl => ?_)
    refine lv_aload_n hx hb dX4_joint_26 rfl (lv_at hl 0 rfl) ?_
    refine rr_callV (As := []) C hN (kC k) (kC_lt hNn hkn) hC_ce rfl rfl (ct_X1_isOfLastSet l hkn hNn) gX4_joint_X1_isOfLastSet rfl rfl rfl 0 (by decide +kernel) ⟨Nat.le_of_ble_eq_true rfl, Nat.le_of_ble_eq_true rfl⟩ rfl hl.1 rfl (Nat.le_of_ble_eq_true rfl) ⟨Nat.zero_le _, Nat.zero_le _⟩ dX4_joint_27 (fun H locs hN => ?_)
    refine lv_topi (fun vs1 evs1 => ?_)
    refine lv_if_eq (tgt := 49) hx hb dX4_joint_30 (by decide) (fun c_30 => ?_) (fun c_30 => ?_)
    · obtain ⟨vs2, evs2⟩ : ∃ y9 : Int32, y9 = x + 1 := ⟨_, rfl⟩
      refine lv_iinc (v := vs2) (lv' := [(1, .int vs2), (2, .ref (B (kC k))), (0, .ref (B 29))]) hx hb dX4_joint_49 hl (k := 2) rfl (by rw [evs2]; rfl) (by decide) rfl (fun ls hl => ?_)
      refine lv_goto (tgt := 11) hx hb dX4_joint_52 (by decide) ?_
      exact ih (k + 1) vs2 u (by omega) hc (by rw [evs2, hxk]; exact nI_1 k) hrun (hr.trans (by subst_vars; first | rfl | (simp only [cu_jt]; done) | (simp only [cu_jt]; (repeat' split) <;> first | rfl | contradiction | simp_all))) (hu.trans (by subst_vars; first | rfl | (simp only [cu_jt]; done) | (simp only [cu_jt]; (repeat' split) <;> first | rfl | contradiction | simp_all))) H locs ls hN (lv_sub hl [2, 0] rfl)
    · refine lv_aload_n hx hb dX4_joint_33 rfl (lv_at hl 0 rfl) ?_
      refine rr_callV (As := []) C hN (kC k) (kC_lt hNn hkn) hC_ce rfl rfl (ct_X1_runningBank l hkn hb2 hbe hNn) gX4_joint_X1_runningBank rfl rfl rfl 0 (by decide +kernel) ⟨Nat.le_of_ble_eq_true rfl, Nat.le_of_ble_eq_true rfl⟩ rfl hl.1 rfl (Nat.le_of_ble_eq_true rfl) ⟨Nat.zero_le _, Nat.zero_le _⟩ dX4_joint_34 (fun H locs hN => ?_)
      refine rr_get C hN (kB k b) (kB_lt hNn hkn hb2) (hB_ce hb2) rfl kw_X4_joint_X0 2 (by decide) (List.mem_of_getElem? (i := 3) rfl) (v := .int (u (kB k b) 2)) rfl dX4_joint_37 ?_
      refine lv_aload_n hx hb dX4_joint_40 rfl (lv_at hl 0 rfl) ?_
      refine rr_get C hN (kC k) (kC_lt hNn hkn) hC_ce rfl kw_X4_joint_X1 9 (by decide) (List.mem_of_getElem? (i := 4) rfl) (v := .int (u (kC k) 9)) rfl dX4_joint_41 ?_
      refine lv_icmp_eq (tgt := 49) hx hb dX4_joint_44 (by decide) (fun c_44 => ?_) (fun c_44 => ?_)
      · obtain ⟨vs3, evs3⟩ : ∃ y9 : Int32, y9 = x + 1 := ⟨_, rfl⟩
        refine lv_iinc (v := vs3) (lv' := [(1, .int vs3), (2, .ref (B (kC k))), (0, .ref (B 29))]) hx hb dX4_joint_49 hl (k := 2) rfl (by rw [evs3]; rfl) (by decide) rfl (fun ls hl => ?_)
        refine lv_goto (tgt := 11) hx hb dX4_joint_52 (by decide) ?_
        exact ih (k + 1) vs3 u (by omega) hc (by rw [evs3, hxk]; exact nI_1 k) hrun (hr.trans (by subst_vars; first | rfl | (simp only [cu_jt]; done) | (simp only [cu_jt]; (repeat' split) <;> first | rfl | contradiction | simp_all))) (hu.trans (by subst_vars; first | rfl | (simp only [cu_jt]; done) | (simp only [cu_jt]; (repeat' split) <;> first | rfl | contradiction | simp_all))) H locs ls hN (lv_sub hl [2, 0] rfl)
      · refine lv_iconst (v := 0) hx hb dX4_joint_47 (by decide) ?_
        exact rr_iret C hN dX4_joint_48 (hr.trans (by subst_vars; first | rfl | (simp only [cu_jt]; done) | (simp only [cu_jt]; (repeat' split) <;> first | rfl | contradiction | simp_all))) hu
def cu_joint (n : Nat) (u : ww_U) : Int32 := if cu_has n 0 u = 0 then 0 else cu_jt n 0 u
def cu_rollback (n : Nat) (u : ww_U) : ww_U × Int32 := if cu_has n 0 u = 0 then (u, 0) else if cu_may n 0 u = 0 then (u, 0) else (cu_rb n 0 u, 1)
set_option maxHeartbeats 4000000 in
set_option maxRecDepth 100000 in
theorem ct_X4_joint (l : Launch) {D : va_G} {ca : Nat → ClassId} {B : Nat → Nat} {N n : Nat} {X : va_W} {u : ww_U}  (hNn : 36 + 8 * n ≤ N) (hn8 : n ≤ 8) (hc : u 29 1 = nI n) (hrun : cu_run n u) : ww_M l yX4_joint wsX4_joint ({ frames := 2, cells := 0, slots := 0, locals := 41 } : Room) D ca B N n X u [.ref (B 29)] (some (.int (cu_joint n u))) u := by
  refine ww_met (cc := cX4_joint) (maxL := 3) (ret := (some .int)) (by decide) rfl (Nat.le_of_ble_eq_true rfl) ?_
  intro p e s m args below meth c C hN ls hl
  have hl : lv_has ls 3 [(0, .ref (B 29))] := hl
  have hx := C.1.1
  have hb := C.1.2.1
  have hNB : 36 ≤ N := by omega
  have hNN : 29 ≤ N := by omega
  refine lv_aload_n hx hb dX4_joint_0 rfl (lv_at hl 0 rfl) ?_
  refine rr_callV (As := []) C hN 29 (Nat.lt_of_lt_of_le (by decide) hNB) rfl rfl rfl (ct_X4_hasLastSet l hNn hn8 hc) gX4_joint_X4_hasLastSet rfl rfl rfl 0 (by decide +kernel) ⟨Nat.le_of_ble_eq_true rfl, Nat.le_of_ble_eq_true rfl⟩ rfl hl.1 rfl (Nat.le_of_ble_eq_true rfl) ⟨Nat.zero_le _, Nat.zero_le _⟩ dX4_joint_1 (fun H locs hN => ?_)
  refine lv_topi (fun v1 ev1 => ?_)
  refine lv_if_ne (tgt := 9) hx hb dX4_joint_4 (by decide) (fun c_4 => ?_) (fun c_4 => ?_)
  · refine lv_iconst (v := 0) hx hb dX4_joint_9 (by decide) ?_
    refine lv_istore_n (lv' := [(1, .int 0), (0, .ref (B 29))]) hx hb dX4_joint_10 rfl hl (by decide) rfl (fun ls hl => ?_)
    exact lp_X4_joint C hNn  hn8 n 0 0 u (by omega) hc rfl hrun (by subst_vars; first | rfl | (simp only [cu_joint]; done) | (simp only [cu_joint]; (repeat' split) <;> first | rfl | contradiction | simp_all)) rfl _ _ _ hN (lv_sub hl [1, 0] rfl)
  · refine lv_iconst (v := 0) hx hb dX4_joint_7 (by decide) ?_
    exact rr_iret C hN dX4_joint_8 (by subst_vars; first | rfl | (simp only [cu_joint]; done) | (simp only [cu_joint]; (repeat' split) <;> first | rfl | contradiction | simp_all)) rfl
set_option maxRecDepth 20000 in
theorem kw_X4_rollback_X4 : ww_K wsX4_rollback RX4 TX4 8 tyX4 := ⟨by decide +kernel, tyX4_ok, nmX4⟩
set_option maxRecDepth 20000 in
theorem kw_X4_rollback_X1 : ww_K wsX4_rollback RX1 TX1 10 tyX1 := ⟨by decide +kernel, tyX1_ok, nmX1⟩
set_option maxHeartbeats 4000000 in
set_option maxRecDepth 100000 in
theorem lp_X4_rollback {p : Program} {l : Launch} {e : Env} {s : State} {m : MethodId} {args : Array Value} {below : List Frame} {meth : Method} {c : Code} {D : va_G} {ca : Nat → ClassId} {B : Nat → Nat} {N n : Nat} {X : va_W} (C : ww_C D ca yX4_rollback.cls cX4_rollback 3 wsX4_rollback (some .int) (ww_A B N X s.heap.size) p s m args meth c) (hNn : 36 + 8 * n ≤ N)  (hn8 : n ≤ 8)  {r : Option Value} {u' : ww_U} : ∀ (d k : Nat) (x : Int32) (u : ww_U), k + d = n → (u 29 1 = nI n) → (x = nI k) → (cu_run n u) → r = some (.int 1) → u' = cu_rb d k u → ∀ (H : Heap) (locs : List Loc) (ls : Array Slot), ww_N D ca B N n u X (ww_A B N X s.heap.size) s.heap H locs → lv_has ls 3 [(0, .ref (B 29)), (1, .int x)] → W p l e (headSpec wsX4_rollback ({ frames := 2, cells := 0, slots := 0, locals := 42 } : Room)).room s m args below meth c H locs 0 0 (MQ below (ww_Q D ca B N n X s.heap.size r u') args s 0 0 (ww_A B N X s.heap.size)) (F0 m 18 ls []) := by
  have hx := C.1.1
  have hb := C.1.2.1
  have hNB : 36 ≤ N := by omega
  have hNN : 29 ≤ N := by omega
  intro d
  induction d with
  | zero =>
    intro k x u hkd hc hxk hrun hr hu H locs ls hN hl
    refine lv_iload_n hx hb dX4_rollback_18 rfl (lv_at hl 1 rfl) ?_
    refine lv_aload_n hx hb dX4_rollback_19 rfl (lv_at hl 0 rfl) ?_
    refine rr_get C hN 29 (Nat.lt_of_lt_of_le (by decide) hNB) rfl rfl kw_X4_rollback_X4 1 (by decide) (List.mem_of_getElem? (i := 1) rfl) (v := .int (u 29 1)) rfl dX4_rollback_20 ?_
    refine lv_icmp_ge (tgt := 55) hx hb dX4_rollback_23 (by decide) (fun c_23 => ?_) (fun c_23 => absurd c_23 (fun h => h (by rw [hc, hxk, show k = n by omega]; exact nI_le (Nat.le_refl _) (by omega))))
    refine lv_iconst (v := 1) hx hb dX4_rollback_55 (by decide) ?_
    exact rr_iret C hN dX4_rollback_56 hr hu
  | succ d ih =>
    intro k x u hkd hc hxk hrun hr hu H locs ls hN hl
    have hkn : k < n := by omega
    obtain ⟨b, hb2, hbe⟩ := hrun k hkn
    have hcb : cu_b u k = b := cu_b_of hb2 hbe
    refine lv_iload_n hx hb dX4_rollback_18 rfl (lv_at hl 1 rfl) ?_
    refine lv_aload_n hx hb dX4_rollback_19 rfl (lv_at hl 0 rfl) ?_
    refine rr_get C hN 29 (Nat.lt_of_lt_of_le (by decide) hNB) rfl rfl kw_X4_rollback_X4 1 (by decide) (List.mem_of_getElem? (i := 1) rfl) (v := .int (u 29 1)) rfl dX4_rollback_20 ?_
    refine lv_icmp_ge (tgt := 55) hx hb dX4_rollback_23 (by decide) (fun c_23 => absurd c_23 (by rw [hc, hxk]; exact nI_ge (by omega) (by omega))) (fun c_23 => ?_)
    refine lv_aload_n hx hb dX4_rollback_26 rfl (lv_at hl 0 rfl) ?_
    refine rr_get C hN 29 (Nat.lt_of_lt_of_le (by decide) hNB) rfl rfl kw_X4_rollback_X4 0 (by decide) (List.mem_of_getElem? (i := 2) rfl) (v := .ref (B 30)) rfl dX4_rollback_27 ?_
    refine lv_iload_n hx hb dX4_rollback_30 rfl (lv_at hl 1 rfl) ?_
    refine rr_ald C hN 30 (Nat.lt_of_lt_of_le (by decide) hNB) 3 rfl rfl (by decide) k (by omega) hxk (v := .ref (B (kC k))) (by simp only [if_pos hkn]; rfl) dX4_rollback_31 ?_
    refine lv_astore_n (lv' := [(2, .ref (B (kC k))), (0, .ref (B 29)), (1, .int x)]) hx hb dX4_rollback_32 rfl hl (by decide) rfl (fun ls hl => ?_)
    refine lv_aload_n hx hb dX4_rollback_33 rfl (lv_at hl 0 rfl) ?_
    refine rr_callV (As := []) C hN (kC k) (kC_lt hNn hkn) hC_ce rfl rfl (ct_X1_isOfLastSet l hkn hNn) gX4_rollback_X1_isOfLastSet rfl rfl rfl 0 (by decide +kernel) ⟨Nat.le_of_ble_eq_true rfl, Nat.le_of_ble_eq_true rfl⟩ rfl hl.1 rfl (Nat.le_of_ble_eq_true rfl) ⟨Nat.zero_le _, Nat.zero_le _⟩ dX4_rollback_34 (fun H locs hN => ?_)
    refine lv_topi (fun vs1 evs1 => ?_)
    refine lv_if_eq (tgt := 49) hx hb dX4_rollback_37 (by decide) (fun c_37 => ?_) (fun c_37 => ?_)
    · obtain ⟨vs2, evs2⟩ : ∃ y9 : Int32, y9 = x + 1 := ⟨_, rfl⟩
      refine lv_iinc (v := vs2) (lv' := [(1, .int vs2), (2, .ref (B (kC k))), (0, .ref (B 29))]) hx hb dX4_rollback_49 hl (k := 2) rfl (by rw [evs2]; rfl) (by decide) rfl (fun ls hl => ?_)
      refine lv_goto (tgt := 18) hx hb dX4_rollback_52 (by decide) ?_
      exact ih (k + 1) vs2 u (by omega) hc (by rw [evs2, hxk]; exact nI_1 k) hrun (hr.trans (by subst_vars; first | rfl | (simp only [cu_rb]; done) | (simp only [cu_rb]; (repeat' split) <;> first | rfl | contradiction | simp_all))) (hu.trans (by subst_vars; first | rfl | (simp only [cu_rb]; done) | (simp only [cu_rb]; (repeat' split) <;> first | rfl | contradiction | simp_all))) H locs ls hN (lv_sub hl [2, 0] rfl)
    · refine lv_aload_n hx hb dX4_rollback_40 rfl (lv_at hl 0 rfl) ?_
      refine rr_callV0 (As := []) C hN (kC k) (kC_lt hNn hkn) hC_ce rfl rfl (ct_X1_runOtherBank l hkn hb2 hbe hNn) gX4_rollback_X1_runOtherBank rfl rfl rfl 0 (by decide +kernel) ⟨Nat.le_of_ble_eq_true rfl, Nat.le_of_ble_eq_true rfl⟩ rfl hl.1 rfl (Nat.le_of_ble_eq_true rfl) ⟨Nat.zero_le _, Nat.zero_le _⟩ dX4_rollback_41 (fun H locs hN => ?_)
      obtain ⟨us3, eus3⟩ : ∃ y : ww_U, y = cu_other u k := ⟨_, rfl⟩
      rw [← eus3] at hN
      refine lv_aload_n hx hb dX4_rollback_44 rfl (lv_at hl 0 rfl) ?_
      refine lv_iconst (v := 0) hx hb dX4_rollback_45 (by decide) ?_
      refine rr_put C hN (kC k) (kC_lt hNn hkn) hC_ce rfl kw_X4_rollback_X1 9 (by decide) (List.mem_of_getElem? (i := 3) rfl) rfl (x := 0) rfl rfl (Nat.le_of_ble_eq_true rfl) (hC_ce.trans rfl) dX4_rollback_46 (fun us4 eus4 H locs hN => ?_)
      obtain ⟨vs5, evs5⟩ : ∃ y9 : Int32, y9 = x + 1 := ⟨_, rfl⟩
      refine lv_iinc (v := vs5) (lv' := [(1, .int vs5), (2, .ref (B (kC k))), (0, .ref (B 29))]) hx hb dX4_rollback_49 hl (k := 2) rfl (by rw [evs5]; rfl) (by decide) rfl (fun ls hl => ?_)
      refine lv_goto (tgt := 18) hx hb dX4_rollback_52 (by decide) ?_
      exact ih (k + 1) vs5 us4 (by omega) (by subst_vars; rw [ww_up_ne (by simp only [kC]; omega), cu_other_ne (by simp only [kC]; omega)]; exact hc) (by rw [evs5, hxk]; exact nI_1 k) (by subst_vars; exact cu_run_up (cu_run_other hrun hkn) (by decide)) (hr.trans (by subst_vars; first | rfl | (simp only [cu_rb]; done) | (simp only [cu_rb]; (repeat' split) <;> first | rfl | contradiction | simp_all))) (hu.trans (by subst_vars; first | rfl | (simp only [cu_rb]; done) | (simp only [cu_rb]; (repeat' split) <;> first | rfl | contradiction | simp_all))) H locs ls hN (lv_sub hl [2, 0] rfl)
set_option maxHeartbeats 4000000 in
set_option maxRecDepth 100000 in
theorem ct_X4_rollback (l : Launch) {D : va_G} {ca : Nat → ClassId} {B : Nat → Nat} {N n : Nat} {X : va_W} {u : ww_U}  (hNn : 36 + 8 * n ≤ N) (hn8 : n ≤ 8) (hc : u 29 1 = nI n) (hrun : cu_run n u) : ww_M l yX4_rollback wsX4_rollback ({ frames := 2, cells := 0, slots := 0, locals := 42 } : Room) D ca B N n X u [.ref (B 29)] (some (.int (cu_rollback n u).2)) (cu_rollback n u).1 := by
  refine ww_met (cc := cX4_rollback) (maxL := 3) (ret := (some .int)) (by decide) rfl (Nat.le_of_ble_eq_true rfl) ?_
  intro p e s m args below meth c C hN ls hl
  have hl : lv_has ls 3 [(0, .ref (B 29))] := hl
  have hx := C.1.1
  have hb := C.1.2.1
  have hNB : 36 ≤ N := by omega
  have hNN : 29 ≤ N := by omega
  refine lv_aload_n hx hb dX4_rollback_0 rfl (lv_at hl 0 rfl) ?_
  refine rr_callV (As := []) C hN 29 (Nat.lt_of_lt_of_le (by decide) hNB) rfl rfl rfl (ct_X4_hasLastSet l hNn hn8 hc) gX4_rollback_X4_hasLastSet rfl rfl rfl 0 (by decide +kernel) ⟨Nat.le_of_ble_eq_true rfl, Nat.le_of_ble_eq_true rfl⟩ rfl hl.1 rfl (Nat.le_of_ble_eq_true rfl) ⟨Nat.zero_le _, Nat.zero_le _⟩ dX4_rollback_1 (fun H locs hN => ?_)
  refine lv_topi (fun v1 ev1 => ?_)
  refine lv_if_eq (tgt := 14) hx hb dX4_rollback_4 (by decide) (fun c_4 => ?_) (fun c_4 => ?_)
  · refine lv_iconst (v := 0) hx hb dX4_rollback_14 (by decide) ?_
    exact rr_iret C hN dX4_rollback_15 (by subst_vars; first | rfl | (simp only [cu_rollback]; done) | (simp only [cu_rollback]; (repeat' split) <;> first | rfl | contradiction | simp_all)) (by subst_vars; first | rfl | (simp only [cu_rollback]; done) | (simp only [cu_rollback]; (repeat' split) <;> first | rfl | contradiction | simp_all))
  · refine lv_aload_n hx hb dX4_rollback_7 rfl (lv_at hl 0 rfl) ?_
    refine rr_callV (As := []) C hN 29 (Nat.lt_of_lt_of_le (by decide) hNB) rfl rfl rfl (ct_X4_lastSetMayGoBack l hNn hn8 hc) gX4_rollback_X4_lastSetMayGoBack rfl rfl rfl 0 (by decide +kernel) ⟨Nat.le_of_ble_eq_true rfl, Nat.le_of_ble_eq_true rfl⟩ rfl hl.1 rfl (Nat.le_of_ble_eq_true rfl) ⟨Nat.zero_le _, Nat.zero_le _⟩ dX4_rollback_8 (fun H locs hN => ?_)
    refine lv_topi (fun v2 ev2 => ?_)
    refine lv_if_ne (tgt := 16) hx hb dX4_rollback_11 (by decide) (fun c_11 => ?_) (fun c_11 => ?_)
    · refine lv_iconst (v := 0) hx hb dX4_rollback_16 (by decide) ?_
      refine lv_istore_n (lv' := [(1, .int 0), (0, .ref (B 29))]) hx hb dX4_rollback_17 rfl hl (by decide) rfl (fun ls hl => ?_)
      exact lp_X4_rollback C hNn  hn8 n 0 0 u (by omega) hc rfl hrun (by subst_vars; first | rfl | (simp only [cu_rollback]; done) | (simp only [cu_rollback]; (repeat' split) <;> first | rfl | contradiction | simp_all)) (by subst_vars; first | rfl | (simp only [cu_rollback]; done) | (simp only [cu_rollback]; (repeat' split) <;> first | rfl | contradiction | simp_all)) _ _ _ hN (lv_sub hl [1, 0] rfl)
    · refine lv_iconst (v := 0) hx hb dX4_rollback_14 (by decide) ?_
      exact rr_iret C hN dX4_rollback_15 (by subst_vars; first | rfl | (simp only [cu_rollback]; done) | (simp only [cu_rollback]; (repeat' split) <;> first | rfl | contradiction | simp_all)) (by subst_vars; first | rfl | (simp only [cu_rollback]; done) | (simp only [cu_rollback]; (repeat' split) <;> first | rfl | contradiction | simp_all))
set_option maxRecDepth 20000 in
theorem kw_X4_findOpen_X4 : ww_K wsX4_findOpen RX4 TX4 8 tyX4 := ⟨by decide +kernel, tyX4_ok, nmX4⟩
set_option maxRecDepth 20000 in
theorem kw_X4_findOpen_X1 : ww_K wsX4_findOpen RX1 TX1 10 tyX1 := ⟨by decide +kernel, tyX1_ok, nmX1⟩
set_option maxRecDepth 20000 in
theorem kw_X4_findOpen_X3 : ww_K wsX4_findOpen RX3 TX3 8 tyX3 := ⟨by decide +kernel, tyX3_ok, nmX3⟩
set_option maxHeartbeats 4000000 in
set_option maxRecDepth 100000 in
theorem lp_X4_findOpen {p : Program} {l : Launch} {e : Env} {s : State} {m : MethodId} {args : Array Value} {below : List Frame} {meth : Method} {c : Code} {D : va_G} {ca : Nat → ClassId} {B : Nat → Nat} {N n : Nat} {X : va_W} (C : ww_C D ca yX4_findOpen.cls cX4_findOpen 4 wsX4_findOpen (some (.object "UpdatePacks$Pack")) (ww_A B N X s.heap.size) p s m args meth c) (hNn : 36 + 8 * n ≤ N) (a : Int32) (hn8 : n ≤ 8)  {r : Option Value} {u' : ww_U} : ∀ (d k : Nat) (x : Int32) (u : ww_U), k + d = n → (u 29 1 = nI n) → (x = nI k) → r = some (va_rf ((cu_fo d k a u).map (fun j => B (kP j)))) → u' = u → ∀ (H : Heap) (locs : List Loc) (ls : Array Slot), ww_N D ca B N n u X (ww_A B N X s.heap.size) s.heap H locs → lv_has ls 4 [(0, .ref (B 29)), (1, .int a), (2, .int x)] → W p l e (headSpec wsX4_findOpen ({ frames := 0, cells := 0, slots := 0, locals := 0 } : Room)).room s m args below meth c H locs 0 0 (MQ below (ww_Q D ca B N n X s.heap.size r u') args s 0 0 (ww_A B N X s.heap.size)) (F0 m 2 ls []) := by
  have hx := C.1.1
  have hb := C.1.2.1
  have hNB : 36 ≤ N := by omega
  have hNN : 29 ≤ N := by omega
  intro d
  induction d with
  | zero =>
    intro k x u hkd hc hxk hr hu H locs ls hN hl
    refine lv_iload_n hx hb dX4_findOpen_2 rfl (lv_at hl 2 rfl) ?_
    refine lv_aload_n hx hb dX4_findOpen_3 rfl (lv_at hl 0 rfl) ?_
    refine rr_get C hN 29 (Nat.lt_of_lt_of_le (by decide) hNB) rfl rfl kw_X4_findOpen_X4 1 (by decide) (List.mem_of_getElem? (i := 1) rfl) (v := .int (u 29 1)) rfl dX4_findOpen_4 ?_
    refine lv_icmp_ge (tgt := 43) hx hb dX4_findOpen_7 (by decide) (fun c_7 => ?_) (fun c_7 => absurd c_7 (fun h => h (by rw [hc, hxk, show k = n by omega]; exact nI_le (Nat.le_refl _) (by omega))))
    refine lv_null hx hb dX4_findOpen_43 ?_
    exact rr_aret C hN dX4_findOpen_44 (Or.inl rfl) hr hu
  | succ d ih =>
    intro k x u hkd hc hxk hr hu H locs ls hN hl
    have hkn : k < n := by omega
    refine lv_iload_n hx hb dX4_findOpen_2 rfl (lv_at hl 2 rfl) ?_
    refine lv_aload_n hx hb dX4_findOpen_3 rfl (lv_at hl 0 rfl) ?_
    refine rr_get C hN 29 (Nat.lt_of_lt_of_le (by decide) hNB) rfl rfl kw_X4_findOpen_X4 1 (by decide) (List.mem_of_getElem? (i := 1) rfl) (v := .int (u 29 1)) rfl dX4_findOpen_4 ?_
    refine lv_icmp_ge (tgt := 43) hx hb dX4_findOpen_7 (by decide) (fun c_7 => absurd c_7 (by rw [hc, hxk]; exact nI_ge (by omega) (by omega))) (fun c_7 => ?_)
    refine lv_aload_n hx hb dX4_findOpen_10 rfl (lv_at hl 0 rfl) ?_
    refine rr_get C hN 29 (Nat.lt_of_lt_of_le (by decide) hNB) rfl rfl kw_X4_findOpen_X4 0 (by decide) (List.mem_of_getElem? (i := 2) rfl) (v := .ref (B 30)) rfl dX4_findOpen_11 ?_
    refine lv_iload_n hx hb dX4_findOpen_14 rfl (lv_at hl 2 rfl) ?_
    refine rr_ald C hN 30 (Nat.lt_of_lt_of_le (by decide) hNB) 3 rfl rfl (by decide) k (by omega) hxk (v := .ref (B (kC k))) (by simp only [if_pos hkn]; rfl) dX4_findOpen_15 ?_
    refine rr_get C hN (kC k) (kC_lt hNn hkn) hC_ce rfl kw_X4_findOpen_X1 2 (by decide) (List.mem_of_getElem? (i := 3) rfl) (v := .ref (B (kP k))) rfl dX4_findOpen_16 ?_
    refine lv_astore_n (lv' := [(3, .ref (B (kP k))), (0, .ref (B 29)), (1, .int a), (2, .int x)]) hx hb dX4_findOpen_19 rfl hl (by decide) rfl (fun ls hl => ?_)
    refine lv_aload_n hx hb dX4_findOpen_20 rfl (lv_at hl 0 rfl) ?_
    refine rr_get C hN (kP k) (kP_lt hNn hkn) hP_ce rfl kw_X4_findOpen_X3 4 (by decide) (List.mem_of_getElem? (i := 4) rfl) (v := .int (u (kP k) 4)) rfl dX4_findOpen_21 ?_
    refine lv_if_eq (tgt := 37) hx hb dX4_findOpen_24 (by decide) (fun c_24 => ?_) (fun c_24 => ?_)
    · obtain ⟨vs1, evs1⟩ : ∃ y9 : Int32, y9 = x + 1 := ⟨_, rfl⟩
      refine lv_iinc (v := vs1) (lv' := [(2, .int vs1), (3, .ref (B (kP k))), (0, .ref (B 29)), (1, .int a)]) hx hb dX4_findOpen_37 hl (k := 3) rfl (by rw [evs1]; rfl) (by decide) rfl (fun ls hl => ?_)
      refine lv_goto (tgt := 2) hx hb dX4_findOpen_40 (by decide) ?_
      exact ih (k + 1) vs1 u (by omega) hc (by rw [evs1, hxk]; exact nI_1 k) (hr.trans (by subst_vars; first | rfl | (simp only [cu_fo]; done) | (simp only [cu_fo]; (repeat' split) <;> first | rfl | contradiction | simp_all))) (hu.trans (by subst_vars; first | rfl | (simp only [cu_fo]; done) | (simp only [cu_fo]; (repeat' split) <;> first | rfl | contradiction | simp_all))) H locs ls hN (lv_sub hl [2, 3, 0] rfl)
    · refine lv_aload_n hx hb dX4_findOpen_27 rfl (lv_at hl 0 rfl) ?_
      refine rr_get C hN (kP k) (kP_lt hNn hkn) hP_ce rfl kw_X4_findOpen_X3 2 (by decide) (List.mem_of_getElem? (i := 5) rfl) (v := .int (u (kP k) 2)) rfl dX4_findOpen_28 ?_
      refine lv_iload_n hx hb dX4_findOpen_31 rfl (lv_at hl 2 rfl) ?_
      refine lv_icmp_ne (tgt := 37) hx hb dX4_findOpen_32 (by decide) (fun c_32 => ?_) (fun c_32 => ?_)
      · obtain ⟨vs2, evs2⟩ : ∃ y9 : Int32, y9 = x + 1 := ⟨_, rfl⟩
        refine lv_iinc (v := vs2) (lv' := [(2, .int vs2), (3, .ref (B (kP k))), (0, .ref (B 29)), (1, .int a)]) hx hb dX4_findOpen_37 hl (k := 3) rfl (by rw [evs2]; rfl) (by decide) rfl (fun ls hl => ?_)
        refine lv_goto (tgt := 2) hx hb dX4_findOpen_40 (by decide) ?_
        exact ih (k + 1) vs2 u (by omega) hc (by rw [evs2, hxk]; exact nI_1 k) (hr.trans (by subst_vars; first | rfl | (simp only [cu_fo]; done) | (simp only [cu_fo]; (repeat' split) <;> first | rfl | contradiction | simp_all))) (hu.trans (by subst_vars; first | rfl | (simp only [cu_fo]; done) | (simp only [cu_fo]; (repeat' split) <;> first | rfl | contradiction | simp_all))) H locs ls hN (lv_sub hl [2, 3, 0] rfl)
      · refine lv_aload_n hx hb dX4_findOpen_35 rfl (lv_at hl 0 rfl) ?_
        exact rr_aret C hN dX4_findOpen_36 (Or.inr ⟨_, rfl⟩) (hr.trans (by subst_vars; first | rfl | (simp only [cu_fo]; done) | (simp only [cu_fo]; (repeat' split) <;> first | rfl | contradiction | simp_all))) hu
set_option maxHeartbeats 4000000 in
set_option maxRecDepth 100000 in
theorem ct_X4_findOpen (l : Launch) {D : va_G} {ca : Nat → ClassId} {B : Nat → Nat} {N n : Nat} {X : va_W} {u : ww_U} (a : Int32) (hNn : 36 + 8 * n ≤ N) (hn8 : n ≤ 8) (hc : u 29 1 = nI n) : ww_M l yX4_findOpen wsX4_findOpen ({ frames := 0, cells := 0, slots := 0, locals := 0 } : Room) D ca B N n X u [.ref (B 29), .int a] (some (va_rf ((cu_fo n 0 a u).map (fun j => B (kP j))))) u := by
  refine ww_met (cc := cX4_findOpen) (maxL := 4) (ret := (some (.object "UpdatePacks$Pack"))) (by decide) rfl (Nat.le_of_ble_eq_true rfl) ?_
  intro p e s m args below meth c C hN ls hl
  have hl : lv_has ls 4 [(0, .ref (B 29)), (1, .int a)] := hl
  have hx := C.1.1
  have hb := C.1.2.1
  have hNB : 36 ≤ N := by omega
  have hNN : 29 ≤ N := by omega
  refine lv_iconst (v := 0) hx hb dX4_findOpen_0 (by decide) ?_
  refine lv_istore_n (lv' := [(2, .int 0), (0, .ref (B 29)), (1, .int a)]) hx hb dX4_findOpen_1 rfl hl (by decide) rfl (fun ls hl => ?_)
  exact lp_X4_findOpen C hNn a hn8 n 0 0 u (by omega) hc rfl rfl rfl _ _ _ hN (lv_sub hl [1, 2, 0] rfl)
def cu_switch (n : Nat) (u : ww_U) (i : Nat) : ww_U := if cu_asw n 0 (ww_up (cu_other u i) (kP i) 4 3 (kP i) 6) (ww_up (cu_other u i) (kP i) 4 3) = 0 then ww_up (cu_other u i) (kP i) 4 3 else cu_mls n 0 (ww_up (cu_other u i) (kP i) 4 3 (kP i) 6) (ww_up (cu_other u i) (kP i) 4 3)
def cu_ready (n : Nat) (u : ww_U) (i : Nat) : ww_U × Int32 := if u (kP i) 7 = 0 then (if cu_hold u = 0 then (u, 2) else if cu_can n 0 (u (kP i) 6) u = 0 then (u, 2) else (cu_com n 0 (u (kP i) 6) u, 2)) else (cu_switch n u i, 3)
set_option maxRecDepth 20000 in
theorem kw_X4_switchBanks_X1 : ww_K wsX4_switchBanks RX1 TX1 10 tyX1 := ⟨by decide +kernel, tyX1_ok, nmX1⟩
set_option maxRecDepth 20000 in
theorem kw_X4_switchBanks_X3 : ww_K wsX4_switchBanks RX3 TX3 8 tyX3 := ⟨by decide +kernel, tyX3_ok, nmX3⟩
set_option maxHeartbeats 4000000 in
set_option maxRecDepth 100000 in
theorem ct_X4_switchBanks (l : Launch) {D : va_G} {ca : Nat → ClassId} {B : Nat → Nat} {N n : Nat} {X : va_W} {u : ww_U} {i : Nat} (hi : i < n) (hNn : 36 + 8 * n ≤ N) (hn8 : n ≤ 8) (hc : u 29 1 = nI n) (hrun : cu_run n u) : ww_M l yX4_switchBanks wsX4_switchBanks ({ frames := 2, cells := 0, slots := 0, locals := 44 } : Room) D ca B N n X u [.ref (B 29), .ref (B (kC i))] none (cu_switch n u i) := by
  refine ww_met (cc := cX4_switchBanks) (maxL := 2) (ret := none) (by decide) rfl (Nat.le_of_ble_eq_true rfl) ?_
  intro p e s m args below meth c C hN ls hl
  have hl : lv_has ls 2 [(0, .ref (B 29)), (1, .ref (B (kC i)))] := hl
  have hx := C.1.1
  have hb := C.1.2.1
  have hNB : 36 ≤ N := by omega
  have hNN : 29 ≤ N := by omega
  obtain ⟨b, hb2, hbe⟩ := hrun i hi
  have hcb : cu_b u i = b := cu_b_of hb2 hbe
  refine lv_aload_n hx hb dX4_switchBanks_0 rfl (lv_at hl 1 rfl) ?_
  refine rr_callV0 (As := []) C hN (kC i) (kC_lt hNn hi) hC_ce rfl rfl (ct_X1_runOtherBank l hi hb2 hbe hNn) gX4_switchBanks_X1_runOtherBank rfl rfl rfl 0 (by decide +kernel) ⟨Nat.le_of_ble_eq_true rfl, Nat.le_of_ble_eq_true rfl⟩ rfl hl.1 rfl (Nat.le_of_ble_eq_true rfl) ⟨Nat.zero_le _, Nat.zero_le _⟩ dX4_switchBanks_1 (fun H locs hN => ?_)
  obtain ⟨u1, eu1⟩ : ∃ y : ww_U, y = cu_other u i := ⟨_, rfl⟩
  rw [← eu1] at hN
  refine lv_aload_n hx hb dX4_switchBanks_4 rfl (lv_at hl 1 rfl) ?_
  refine rr_get C hN (kC i) (kC_lt hNn hi) hC_ce rfl kw_X4_switchBanks_X1 2 (by decide) (List.mem_of_getElem? (i := 1) rfl) (v := .ref (B (kP i))) rfl dX4_switchBanks_5 ?_
  refine lv_iconst (v := 3) hx hb dX4_switchBanks_8 (by decide) ?_
  refine rr_put C hN (kP i) (kP_lt hNn hi) hP_ce rfl kw_X4_switchBanks_X3 4 (by decide) (List.mem_of_getElem? (i := 2) rfl) rfl (x := 3) rfl rfl (Nat.le_of_ble_eq_true rfl) (hP_ce.trans rfl) dX4_switchBanks_9 (fun u2 eu2 H locs hN => ?_)
  refine lv_aload_n hx hb dX4_switchBanks_12 rfl (lv_at hl 0 rfl) ?_
  refine lv_aload_n hx hb dX4_switchBanks_13 rfl (lv_at hl 1 rfl) ?_
  refine rr_get C hN (kC i) (kC_lt hNn hi) hC_ce rfl kw_X4_switchBanks_X1 2 (by decide) (List.mem_of_getElem? (i := 1) rfl) (v := .ref (B (kP i))) rfl dX4_switchBanks_14 ?_
  refine rr_get C hN (kP i) (kP_lt hNn hi) hP_ce rfl kw_X4_switchBanks_X3 6 (by decide) (List.mem_of_getElem? (i := 3) rfl) (v := .int (u2 (kP i) 6)) rfl dX4_switchBanks_17 ?_
  refine rr_callV (As := [.int (u2 (kP i) 6)]) C hN 29 (Nat.lt_of_lt_of_le (by decide) hNB) rfl rfl rfl (ct_X4_allSwitched l (u2 (kP i) 6) hNn hn8 (by subst_vars; rw [ww_up_ne (by simp only [kP]; omega), cu_other_ne (by simp only [kC]; omega)]; exact hc)) gX4_switchBanks_X4_allSwitched rfl rfl rfl 1 (by decide +kernel) ⟨Nat.le_of_ble_eq_true rfl, Nat.le_of_ble_eq_true rfl⟩ rfl hl.1 rfl (Nat.le_of_ble_eq_true rfl) ⟨Nat.zero_le _, Nat.zero_le _⟩ dX4_switchBanks_20 (fun H locs hN => ?_)
  refine lv_topi (fun v3 ev3 => ?_)
  refine lv_if_eq (tgt := 37) hx hb dX4_switchBanks_23 (by decide) (fun c_23 => ?_) (fun c_23 => ?_)
  · exact rr_vret C hN dX4_switchBanks_37 rfl (by subst_vars; first | rfl | (simp only [cu_switch]; done) | (simp only [cu_switch]; (repeat' split) <;> first | rfl | contradiction | simp_all))
  · refine lv_aload_n hx hb dX4_switchBanks_26 rfl (lv_at hl 0 rfl) ?_
    refine lv_aload_n hx hb dX4_switchBanks_27 rfl (lv_at hl 1 rfl) ?_
    refine rr_get C hN (kC i) (kC_lt hNn hi) hC_ce rfl kw_X4_switchBanks_X1 2 (by decide) (List.mem_of_getElem? (i := 1) rfl) (v := .ref (B (kP i))) rfl dX4_switchBanks_28 ?_
    refine rr_get C hN (kP i) (kP_lt hNn hi) hP_ce rfl kw_X4_switchBanks_X3 6 (by decide) (List.mem_of_getElem? (i := 3) rfl) (v := .int (u2 (kP i) 6)) rfl dX4_switchBanks_31 ?_
    refine rr_callV0 (As := [.int (u2 (kP i) 6)]) C hN 29 (Nat.lt_of_lt_of_le (by decide) hNB) rfl rfl rfl (ct_X4_makeLastSet l (u2 (kP i) 6) hNn hn8 (by subst_vars; rw [ww_up_ne (by simp only [kP]; omega), cu_other_ne (by simp only [kC]; omega)]; exact hc)) gX4_switchBanks_X4_makeLastSet rfl rfl rfl 1 (by decide +kernel) ⟨Nat.le_of_ble_eq_true rfl, Nat.le_of_ble_eq_true rfl⟩ rfl hl.1 rfl (Nat.le_of_ble_eq_true rfl) ⟨Nat.zero_le _, Nat.zero_le _⟩ dX4_switchBanks_34 (fun H locs hN => ?_)
    obtain ⟨u4, eu4⟩ : ∃ y : ww_U, y = cu_mls n 0 (u2 (kP i) 6) u2 := ⟨_, rfl⟩
    rw [← eu4] at hN
    exact rr_vret C hN dX4_switchBanks_37 rfl (by subst_vars; first | rfl | (simp only [cu_switch]; done) | (simp only [cu_switch]; (repeat' split) <;> first | rfl | contradiction | simp_all))
set_option maxRecDepth 20000 in
theorem kw_X4_stepOfReady_X1 : ww_K wsX4_stepOfReady RX1 TX1 10 tyX1 := ⟨by decide +kernel, tyX1_ok, nmX1⟩
set_option maxRecDepth 20000 in
theorem kw_X4_stepOfReady_X3 : ww_K wsX4_stepOfReady RX3 TX3 8 tyX3 := ⟨by decide +kernel, tyX3_ok, nmX3⟩
set_option maxHeartbeats 4000000 in
set_option maxRecDepth 100000 in
theorem ct_X4_stepOfReady (l : Launch) {D : va_G} {ca : Nat → ClassId} {B : Nat → Nat} {N n : Nat} {X : va_W} {u : ww_U} {i : Nat} (hi : i < n) (hNn : 36 + 8 * n ≤ N) (hn8 : n ≤ 8) (hc : u 29 1 = nI n) (hrun : cu_run n u) : ww_M l yX4_stepOfReady wsX4_stepOfReady ({ frames := 3, cells := 0, slots := 0, locals := 65 } : Room) D ca B N n X u [.ref (B 29), .ref (B (kC i))] (some (.int (cu_ready n u i).2)) (cu_ready n u i).1 := by
  refine ww_met (cc := cX4_stepOfReady) (maxL := 2) (ret := (some .int)) (by decide) rfl (Nat.le_of_ble_eq_true rfl) ?_
  intro p e s m args below meth c C hN ls hl
  have hl : lv_has ls 2 [(0, .ref (B 29)), (1, .ref (B (kC i)))] := hl
  have hx := C.1.1
  have hb := C.1.2.1
  have hNB : 36 ≤ N := by omega
  have hNN : 29 ≤ N := by omega
  refine lv_aload_n hx hb dX4_stepOfReady_0 rfl (lv_at hl 1 rfl) ?_
  refine rr_get C hN (kC i) (kC_lt hNn hi) hC_ce rfl kw_X4_stepOfReady_X1 2 (by decide) (List.mem_of_getElem? (i := 1) rfl) (v := .ref (B (kP i))) rfl dX4_stepOfReady_1 ?_
  refine rr_get C hN (kP i) (kP_lt hNn hi) hP_ce rfl kw_X4_stepOfReady_X3 7 (by decide) (List.mem_of_getElem? (i := 2) rfl) (v := .int (u (kP i) 7)) rfl dX4_stepOfReady_4 ?_
  refine lv_if_eq (tgt := 17) hx hb dX4_stepOfReady_7 (by decide) (fun c_7 => ?_) (fun c_7 => ?_)
  · refine lv_aload_n hx hb dX4_stepOfReady_17 rfl (lv_at hl 0 rfl) ?_
    refine rr_callV (As := []) C hN 29 (Nat.lt_of_lt_of_le (by decide) hNB) rfl rfl rfl (ct_X4_bothHold l hNn) gX4_stepOfReady_X4_bothHold rfl rfl rfl 0 (by decide +kernel) ⟨Nat.le_of_ble_eq_true rfl, Nat.le_of_ble_eq_true rfl⟩ rfl hl.1 rfl (Nat.le_of_ble_eq_true rfl) ⟨Nat.zero_le _, Nat.zero_le _⟩ dX4_stepOfReady_18 (fun H locs hN => ?_)
    refine lv_topi (fun v1 ev1 => ?_)
    refine lv_if_eq (tgt := 49) hx hb dX4_stepOfReady_21 (by decide) (fun c_21 => ?_) (fun c_21 => ?_)
    · refine lv_iconst (v := 2) hx hb dX4_stepOfReady_49 (by decide) ?_
      exact rr_iret C hN dX4_stepOfReady_50 (by subst_vars; first | rfl | (simp only [cu_ready]; done) | (simp only [cu_ready]; (repeat' split) <;> first | rfl | contradiction | simp_all)) (by subst_vars; first | rfl | (simp only [cu_ready]; done) | (simp only [cu_ready]; (repeat' split) <;> first | rfl | contradiction | simp_all))
    · refine lv_aload_n hx hb dX4_stepOfReady_24 rfl (lv_at hl 0 rfl) ?_
      refine lv_aload_n hx hb dX4_stepOfReady_25 rfl (lv_at hl 1 rfl) ?_
      refine rr_get C hN (kC i) (kC_lt hNn hi) hC_ce rfl kw_X4_stepOfReady_X1 2 (by decide) (List.mem_of_getElem? (i := 1) rfl) (v := .ref (B (kP i))) rfl dX4_stepOfReady_26 ?_
      refine rr_get C hN (kP i) (kP_lt hNn hi) hP_ce rfl kw_X4_stepOfReady_X3 6 (by decide) (List.mem_of_getElem? (i := 3) rfl) (v := .int (u (kP i) 6)) rfl dX4_stepOfReady_29 ?_
      refine rr_callV (As := [.int (u (kP i) 6)]) C hN 29 (Nat.lt_of_lt_of_le (by decide) hNB) rfl rfl rfl (ct_X4_allCanCommit l (u (kP i) 6) hNn hn8 hc) gX4_stepOfReady_X4_allCanCommit rfl rfl rfl 1 (by decide +kernel) ⟨Nat.le_of_ble_eq_true rfl, Nat.le_of_ble_eq_true rfl⟩ rfl hl.1 rfl (Nat.le_of_ble_eq_true rfl) ⟨Nat.zero_le _, Nat.zero_le _⟩ dX4_stepOfReady_32 (fun H locs hN => ?_)
      refine lv_topi (fun v2 ev2 => ?_)
      refine lv_if_eq (tgt := 49) hx hb dX4_stepOfReady_35 (by decide) (fun c_35 => ?_) (fun c_35 => ?_)
      · refine lv_iconst (v := 2) hx hb dX4_stepOfReady_49 (by decide) ?_
        exact rr_iret C hN dX4_stepOfReady_50 (by subst_vars; first | rfl | (simp only [cu_ready]; done) | (simp only [cu_ready]; (repeat' split) <;> first | rfl | contradiction | simp_all)) (by subst_vars; first | rfl | (simp only [cu_ready]; done) | (simp only [cu_ready]; (repeat' split) <;> first | rfl | contradiction | simp_all))
      · refine lv_aload_n hx hb dX4_stepOfReady_38 rfl (lv_at hl 0 rfl) ?_
        refine lv_aload_n hx hb dX4_stepOfReady_39 rfl (lv_at hl 1 rfl) ?_
        refine rr_get C hN (kC i) (kC_lt hNn hi) hC_ce rfl kw_X4_stepOfReady_X1 2 (by decide) (List.mem_of_getElem? (i := 1) rfl) (v := .ref (B (kP i))) rfl dX4_stepOfReady_40 ?_
        refine rr_get C hN (kP i) (kP_lt hNn hi) hP_ce rfl kw_X4_stepOfReady_X3 6 (by decide) (List.mem_of_getElem? (i := 3) rfl) (v := .int (u (kP i) 6)) rfl dX4_stepOfReady_43 ?_
        refine rr_callV0 (As := [.int (u (kP i) 6)]) C hN 29 (Nat.lt_of_lt_of_le (by decide) hNB) rfl rfl rfl (ct_X4_commit l (u (kP i) 6) hNn hn8 hc) gX4_stepOfReady_X4_commit rfl rfl rfl 1 (by decide +kernel) ⟨Nat.le_of_ble_eq_true rfl, Nat.le_of_ble_eq_true rfl⟩ rfl hl.1 rfl (Nat.le_of_ble_eq_true rfl) ⟨Nat.zero_le _, Nat.zero_le _⟩ dX4_stepOfReady_46 (fun H locs hN => ?_)
        obtain ⟨u3, eu3⟩ : ∃ y : ww_U, y = cu_com n 0 (u (kP i) 6) u := ⟨_, rfl⟩
        rw [← eu3] at hN
        refine lv_iconst (v := 2) hx hb dX4_stepOfReady_49 (by decide) ?_
        exact rr_iret C hN dX4_stepOfReady_50 (by subst_vars; first | rfl | (simp only [cu_ready]; done) | (simp only [cu_ready]; (repeat' split) <;> first | rfl | contradiction | simp_all)) (by subst_vars; first | rfl | (simp only [cu_ready]; done) | (simp only [cu_ready]; (repeat' split) <;> first | rfl | contradiction | simp_all))
  · refine lv_aload_n hx hb dX4_stepOfReady_10 rfl (lv_at hl 0 rfl) ?_
    refine lv_aload_n hx hb dX4_stepOfReady_11 rfl (lv_at hl 1 rfl) ?_
    refine rr_callV0 (As := [.ref (B (kC i))]) C hN 29 (Nat.lt_of_lt_of_le (by decide) hNB) rfl rfl rfl (ct_X4_switchBanks l hi hNn hn8 hc hrun) gX4_stepOfReady_X4_switchBanks rfl rfl rfl 1 (by decide +kernel) ⟨Nat.le_of_ble_eq_true rfl, Nat.le_of_ble_eq_true rfl⟩ rfl hl.1 rfl (Nat.le_of_ble_eq_true rfl) ⟨Nat.zero_le _, Nat.zero_le _⟩ dX4_stepOfReady_12 (fun H locs hN => ?_)
    obtain ⟨u4, eu4⟩ : ∃ y : ww_U, y = cu_switch n u i := ⟨_, rfl⟩
    rw [← eu4] at hN
    refine lv_iconst (v := 3) hx hb dX4_stepOfReady_15 (by decide) ?_
    exact rr_iret C hN dX4_stepOfReady_16 (by subst_vars; first | rfl | (simp only [cu_ready]; done) | (simp only [cu_ready]; (repeat' split) <;> first | rfl | contradiction | simp_all)) (by subst_vars; first | rfl | (simp only [cu_ready]; done) | (simp only [cu_ready]; (repeat' split) <;> first | rfl | contradiction | simp_all))
def cu_refuse (u : ww_U) (i : Nat) (e z : Int32) : Int32 := if e < 1 then -2 else if 1000 < e then -2 else if u 29 4 = 0 then -2 else if u (kP i) 4 = 2 then -3 else if u (kP i) 4 = 3 then -3 else if u 29 2 < 60 then (if z = 0 then -5 else if u 31 0 = u (kC i) 0 then (if u (kC i) 4 < e then 0 else -7) else -6) else -4
theorem i32_nlt {x y : Int32} (h : x < y) : ¬ y ≤ x := Int32.not_le.mpr h
theorem i32_nle {x y : Int32} (h : ¬ x < y) : y ≤ x := Int32.not_lt.mp h
set_option maxRecDepth 20000 in
theorem kw_X4_refusalOf_X1 : ww_K wsX4_refusalOf RX1 TX1 10 tyX1 := ⟨by decide +kernel, tyX1_ok, nmX1⟩
set_option maxRecDepth 20000 in
theorem kw_X4_refusalOf_X3 : ww_K wsX4_refusalOf RX3 TX3 8 tyX3 := ⟨by decide +kernel, tyX3_ok, nmX3⟩
set_option maxRecDepth 20000 in
theorem kw_X4_refusalOf_X4 : ww_K wsX4_refusalOf RX4 TX4 8 tyX4 := ⟨by decide +kernel, tyX4_ok, nmX4⟩
set_option maxHeartbeats 4000000 in
set_option maxRecDepth 100000 in
theorem ct_X4_refusalOf (l : Launch) {D : va_G} {ca : Nat → ClassId} {B : Nat → Nat} {N n : Nat} {X : va_W} {u : ww_U} {i : Nat} (hi : i < n) (ed z : Int32) (hNn : 36 + 8 * n ≤ N)  : ww_M l yX4_refusalOf wsX4_refusalOf ({ frames := 0, cells := 0, slots := 0, locals := 0 } : Room) D ca B N n X u [.ref (B 29), .ref (B (kC i)), .int ed, .int z] (some (.int (cu_refuse u i ed z))) u := by
  refine ww_met (cc := cX4_refusalOf) (maxL := 4) (ret := (some .int)) (by decide) rfl (Nat.le_of_ble_eq_true rfl) ?_
  intro p e s m args below meth c C hN ls hl
  have hl : lv_has ls 4 [(0, .ref (B 29)), (1, .ref (B (kC i))), (2, .int ed), (3, .int z)] := hl
  have hx := C.1.1
  have hb := C.1.2.1
  have hNB : 36 ≤ N := by omega
  have hNN : 29 ≤ N := by omega
  refine lv_iload_n hx hb dX4_refusalOf_0 rfl (lv_at hl 2 rfl) ?_
  refine lv_iconst (v := 1) hx hb dX4_refusalOf_1 (by decide) ?_
  refine lv_icmp_lt (tgt := 19) hx hb dX4_refusalOf_2 (by decide) (fun c_2 => ?_) (fun c_2 => ?_)
  · refine lv_bipush (v := (-2)) hx hb dX4_refusalOf_19 (by decide) ?_
    exact rr_iret C hN dX4_refusalOf_21 (by subst_vars; first | rfl | (simp only [cu_refuse]; done) | (simp only [cu_refuse]; (repeat' split) <;> first | rfl | contradiction | simp_all)) rfl
  · refine lv_iload_n hx hb dX4_refusalOf_5 rfl (lv_at hl 2 rfl) ?_
    refine lv_sipush (v := 1000) hx hb dX4_refusalOf_6 (by decide) ?_
    refine lv_icmp_gt (tgt := 19) hx hb dX4_refusalOf_9 (by decide) (fun c_9 => ?_) (fun c_9 => ?_)
    · refine lv_bipush (v := (-2)) hx hb dX4_refusalOf_19 (by decide) ?_
      exact rr_iret C hN dX4_refusalOf_21 (by subst_vars; first | rfl | (simp only [cu_refuse]; done) | (simp only [cu_refuse]; (repeat' split) <;> first | rfl | contradiction | simp_all)) rfl
    · refine lv_aload_n hx hb dX4_refusalOf_12 rfl (lv_at hl 0 rfl) ?_
      refine rr_get C hN 29 (Nat.lt_of_lt_of_le (by decide) hNB) rfl rfl kw_X4_refusalOf_X4 4 (by decide) (List.mem_of_getElem? (i := 1) rfl) (v := .int (u 29 4)) rfl dX4_refusalOf_13 ?_
      refine lv_if_ne (tgt := 22) hx hb dX4_refusalOf_16 (by decide) (fun c_16 => ?_) (fun c_16 => ?_)
      · refine lv_aload_n hx hb dX4_refusalOf_22 rfl (lv_at hl 1 rfl) ?_
        refine rr_get C hN (kC i) (kC_lt hNn hi) hC_ce rfl kw_X4_refusalOf_X1 2 (by decide) (List.mem_of_getElem? (i := 2) rfl) (v := .ref (B (kP i))) rfl dX4_refusalOf_23 ?_
        refine rr_get C hN (kP i) (kP_lt hNn hi) hP_ce rfl kw_X4_refusalOf_X3 4 (by decide) (List.mem_of_getElem? (i := 3) rfl) (v := .int (u (kP i) 4)) rfl dX4_refusalOf_26 ?_
        refine lv_iconst (v := 2) hx hb dX4_refusalOf_29 (by decide) ?_
        refine lv_icmp_eq (tgt := 44) hx hb dX4_refusalOf_30 (by decide) (fun c_30 => ?_) (fun c_30 => ?_)
        · refine lv_bipush (v := (-3)) hx hb dX4_refusalOf_44 (by decide) ?_
          exact rr_iret C hN dX4_refusalOf_46 (by subst_vars; first | rfl | (simp only [cu_refuse]; done) | (simp only [cu_refuse]; (repeat' split) <;> first | rfl | contradiction | simp_all)) rfl
        · refine lv_aload_n hx hb dX4_refusalOf_33 rfl (lv_at hl 1 rfl) ?_
          refine rr_get C hN (kC i) (kC_lt hNn hi) hC_ce rfl kw_X4_refusalOf_X1 2 (by decide) (List.mem_of_getElem? (i := 2) rfl) (v := .ref (B (kP i))) rfl dX4_refusalOf_34 ?_
          refine rr_get C hN (kP i) (kP_lt hNn hi) hP_ce rfl kw_X4_refusalOf_X3 4 (by decide) (List.mem_of_getElem? (i := 3) rfl) (v := .int (u (kP i) 4)) rfl dX4_refusalOf_37 ?_
          refine lv_iconst (v := 3) hx hb dX4_refusalOf_40 (by decide) ?_
          refine lv_icmp_ne (tgt := 47) hx hb dX4_refusalOf_41 (by decide) (fun c_41 => ?_) (fun c_41 => ?_)
          · refine lv_aload_n hx hb dX4_refusalOf_47 rfl (lv_at hl 0 rfl) ?_
            refine rr_get C hN 29 (Nat.lt_of_lt_of_le (by decide) hNB) rfl rfl kw_X4_refusalOf_X4 2 (by decide) (List.mem_of_getElem? (i := 4) rfl) (v := .int (u 29 2)) rfl dX4_refusalOf_48 ?_
            refine lv_bipush (v := 60) hx hb dX4_refusalOf_51 (by decide) ?_
            refine lv_icmp_lt (tgt := 59) hx hb dX4_refusalOf_53 (by decide) (fun c_53 => ?_) (fun c_53 => ?_)
            · refine lv_iload_n hx hb dX4_refusalOf_59 rfl (lv_at hl 3 rfl) ?_
              refine lv_if_ne (tgt := 66) hx hb dX4_refusalOf_60 (by decide) (fun c_60 => ?_) (fun c_60 => ?_)
              · refine lv_aload_n hx hb dX4_refusalOf_66 rfl (lv_at hl 0 rfl) ?_
                refine rr_get C hN 29 (Nat.lt_of_lt_of_le (by decide) hNB) rfl rfl kw_X4_refusalOf_X4 3 (by decide) (List.mem_of_getElem? (i := 5) rfl) (v := .ref (B 31)) rfl dX4_refusalOf_67 ?_
                refine lv_iconst (v := 0) hx hb dX4_refusalOf_70 (by decide) ?_
                refine rr_bald C hN 31 (Nat.lt_of_lt_of_le (by decide) hNB) rfl (by decide) 0 (by decide) rfl dX4_refusalOf_71 ?_
                refine lv_aload_n hx hb dX4_refusalOf_72 rfl (lv_at hl 1 rfl) ?_
                refine rr_get C hN (kC i) (kC_lt hNn hi) hC_ce rfl kw_X4_refusalOf_X1 0 (by decide) (List.mem_of_getElem? (i := 6) rfl) (v := .int (u (kC i) 0)) rfl dX4_refusalOf_73 ?_
                refine lv_icmp_eq (tgt := 82) hx hb dX4_refusalOf_76 (by decide) (fun c_76 => ?_) (fun c_76 => ?_)
                · refine lv_iload_n hx hb dX4_refusalOf_82 rfl (lv_at hl 2 rfl) ?_
                  refine lv_aload_n hx hb dX4_refusalOf_83 rfl (lv_at hl 1 rfl) ?_
                  refine rr_get C hN (kC i) (kC_lt hNn hi) hC_ce rfl kw_X4_refusalOf_X1 4 (by decide) (List.mem_of_getElem? (i := 7) rfl) (v := .int (u (kC i) 4)) rfl dX4_refusalOf_84 ?_
                  refine lv_icmp_gt (tgt := 95) hx hb dX4_refusalOf_87 (by decide) (fun c_87 => ?_) (fun c_87 => ?_)
                  · refine lv_iconst (v := 0) hx hb dX4_refusalOf_95 (by decide) ?_
                    exact rr_iret C hN dX4_refusalOf_96 (by subst_vars; first | rfl | (simp only [cu_refuse]; done) | (simp only [cu_refuse]; (repeat' split) <;> first | rfl | contradiction | simp_all)) rfl
                  · refine lv_bipush (v := (-7)) hx hb dX4_refusalOf_90 (by decide) ?_
                    refine lv_goto (tgt := 96) hx hb dX4_refusalOf_92 (by decide) ?_
                    exact rr_iret C hN dX4_refusalOf_96 (by subst_vars; first | rfl | (simp only [cu_refuse]; done) | (simp only [cu_refuse]; (repeat' split) <;> first | rfl | contradiction | simp_all)) rfl
                · refine lv_bipush (v := (-6)) hx hb dX4_refusalOf_79 (by decide) ?_
                  exact rr_iret C hN dX4_refusalOf_81 (by subst_vars; first | rfl | (simp only [cu_refuse]; done) | (simp only [cu_refuse]; (repeat' split) <;> first | rfl | contradiction | simp_all)) rfl
              · refine lv_bipush (v := (-5)) hx hb dX4_refusalOf_63 (by decide) ?_
                exact rr_iret C hN dX4_refusalOf_65 (by subst_vars; first | rfl | (simp only [cu_refuse]; done) | (simp only [cu_refuse]; (repeat' split) <;> first | rfl | contradiction | simp_all)) rfl
            · refine lv_bipush (v := (-4)) hx hb dX4_refusalOf_56 (by decide) ?_
              exact rr_iret C hN dX4_refusalOf_58 (by subst_vars; first | rfl | (simp only [cu_refuse]; done) | (simp only [cu_refuse]; (repeat' split) <;> first | rfl | contradiction | simp_all)) rfl
          · refine lv_bipush (v := (-3)) hx hb dX4_refusalOf_44 (by decide) ?_
            exact rr_iret C hN dX4_refusalOf_46 (by subst_vars; first | rfl | (simp only [cu_refuse]; done) | (simp only [cu_refuse]; (repeat' split) <;> first | rfl | contradiction | simp_all)) rfl
      · refine lv_bipush (v := (-2)) hx hb dX4_refusalOf_19 (by decide) ?_
        exact rr_iret C hN dX4_refusalOf_21 (by subst_vars; first | rfl | (simp only [cu_refuse]; done) | (simp only [cu_refuse]; (repeat' split) <;> first | rfl | contradiction | simp_all)) rfl
