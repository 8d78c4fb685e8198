def cu_begin : Nat → Nat → Nat → ww_U → ww_U
  | 0, _, _, u => u
  | d + 1, k, i, u => cu_begin d (k + 1) i (ww_up u (kQ i) k (vp_nar .byte (u 31 k)))
def cu_beg (m i : Nat) (num ed : Int32) (u : ww_U) : ww_U := ww_up (ww_up (ww_up (ww_up (ww_up (ww_up (ww_up (cu_begin m 0 i u) (kP i) 1 (nI m)) (kP i) 2 num) (kP i) 3 ed) (kP i) 4 1) (kP i) 5 0) (kP i) 6 num) (kP i) 7 0
def cu_zero : Nat → Nat → Nat → Nat → ww_U → ww_U
  | 0, _, _, _, u => u
  | d + 1, k, i, b, u => cu_zero d (k + 1) i b (ww_up u (kO i b) k (vp_nar .byte 0))
def cu_comp (u : ww_U) (i b len : Nat) : ww_U := ww_up (ww_up (ww_up (cu_zero (256 - len) len i b u) (kB i b) 1 (cu_zero (256 - len) len i b u (kP i) 3)) (kB i b) 2 (ww_up (cu_zero (256 - len) len i b u) (kB i b) 1 (cu_zero (256 - len) len i b u (kP i) 3) (kP i) 2)) (kP i) 4 2
def cu_wl : Nat → Nat → Nat → Nat → Int32 → ww_U → ww_U
  | 0, _, _, _, _, u => u
  | d + 1, k, i, b, f, u => cu_wl d (k + 1) i b f (ww_up u (kO i b) k (vp_nar .byte (u (kQ i) k ^^^ f).toInt8.toInt32))
theorem cu_zero_ne {d k i b a : Nat} {u : ww_U} (h : a ≠ kO i b) : cu_zero d k i b u a = u a := by
  induction d generalizing k u with
  | zero => rfl
  | succ d ih => show cu_zero d (k + 1) i b _ a = _; rw [ih, ww_up_ne h]
theorem cu_wl_ne {d k i b a : Nat} {f : Int32} {u : ww_U} (h : a ≠ kO i b) : cu_wl d k i b f u a = u a := by
  induction d generalizing k u with
  | zero => rfl
  | succ d ih => show cu_wl d (k + 1) i b f _ a = _; rw [ih, ww_up_ne h]
theorem cu_begin_ne {d k i a : Nat} {u : ww_U} (h : a ≠ kQ i) : cu_begin d k i u a = u a := by
  induction d generalizing k u with
  | zero => rfl
  | succ d ih => show cu_begin d (k + 1) i _ a = _; rw [ih, ww_up_ne h]
def cu_write (u : ww_U) (i b w len : Nat) : ww_U :=
  if u (kC i) 8 ≠ 0 ∧ u (kC i) 7 = u (kP i) 5 then ww_up (cu_wl (min (16 * w + 16) len - 16 * w) (16 * w) i b (u (kC i) 8) u) (kC i) 8 0
  else if 16 * w + 16 < len then ww_up (cu_wl (min (16 * w + 16) len - 16 * w) (16 * w) i b 0 u) (kP i) 5 (u (kP i) 5 + 1)
  else cu_comp (ww_up (cu_wl (min (16 * w + 16) len - 16 * w) (16 * w) i b 0 u) (kP i) 5 (u (kP i) 5 + 1)) i b len
set_option maxRecDepth 20000 in
theorem kw_X3_begin_X3 : ww_K wsX3_begin RX3 TX3 8 tyX3 := ⟨by decide +kernel, tyX3_ok, nmX3⟩
set_option maxHeartbeats 4000000 in
set_option maxRecDepth 100000 in
theorem lp_X3_begin {p : Program} {l : Launch} {e : Env} {s : State} {m : MethodId} {args : Array Value} {below : List Frame} {meth : Method} {c : Code} {D : va_G} {ca : Nat → ClassId} {B : Nat → Nat} {N n : Nat} {X : va_W} (C : ww_C D ca yX3_begin.cls cX3_begin 6 wsX3_begin none (ww_A B N X s.heap.size) p s m args meth c) (hNn : 36 + 8 * n ≤ N) {i : Nat} (hi : i < n) (num ed cnt : Int32) {mm : Nat} (hm : mm ≤ 256) (hcm : cnt = nI mm)  {r : Option Value} {u' : ww_U} : ∀ (d k : Nat) (x : Int32) (u : ww_U), k + d = mm → (x = nI k) → r = none → u' = ww_up (ww_up (ww_up (ww_up (ww_up (ww_up (ww_up (cu_begin d k i u) (kP i) 1 cnt) (kP i) 2 num) (kP i) 3 ed) (kP i) 4 1) (kP i) 5 0) (kP i) 6 num) (kP i) 7 0 → ∀ (H : Heap) (locs : List Loc) (ls : Array Slot), ww_N D ca B N n u X (ww_A B N X s.heap.size) s.heap H locs → lv_has ls 6 [(0, .ref (B (kP i))), (1, .int num), (2, .int ed), (3, .ref (B 31)), (4, .int cnt), (5, .int x)] → W p l e (headSpec wsX3_begin ({ frames := 0, cells := 0, slots := 0, locals := 0 } : Room)).room s m args below meth c H locs 0 0 (MQ below (ww_Q D ca B N n X s.heap.size r u') args s 0 0 (ww_A B N X s.heap.size)) (F0 m 3 ls []) := by
  have hx := C.1.1
  have hb := C.1.2.1
  have hNB : 36 ≤ N := by omega
  have hNN : 29 ≤ N := by omega
  intro d
  induction d with
  | zero =>
    intro k x u hkd hxk hr hu H locs ls hN hl
    refine lv_iload hx hb dX3_begin_3 (lv_at hl 5 rfl) ?_
    refine lv_iload hx hb dX3_begin_5 (lv_at hl 4 rfl) ?_
    refine lv_icmp_ge (tgt := 27) hx hb dX3_begin_7 (by decide) (fun c_7 => ?_) (fun c_7 => absurd c_7 (fun h => h (by rw [hcm, hxk, show k = mm by omega]; exact nI_le (Nat.le_refl _) (by omega))))
    refine lv_aload_n hx hb dX3_begin_27 rfl (lv_at hl 0 rfl) ?_
    refine lv_iload hx hb dX3_begin_28 (lv_at hl 4 rfl) ?_
    refine rr_put C hN (kP i) (kP_lt hNn hi) hP_ce rfl kw_X3_begin_X3 1 (by decide) (List.mem_of_getElem? (i := 2) rfl) rfl (x := cnt) rfl rfl (Nat.le_of_ble_eq_true rfl) (hP_ce.trans rfl) dX3_begin_30 (fun uz1 euz1 H locs hN => ?_)
    refine lv_aload_n hx hb dX3_begin_33 rfl (lv_at hl 0 rfl) ?_
    refine lv_iload_n hx hb dX3_begin_34 rfl (lv_at hl 1 rfl) ?_
    refine rr_put C hN (kP i) (kP_lt hNn hi) hP_ce rfl kw_X3_begin_X3 2 (by decide) (List.mem_of_getElem? (i := 3) rfl) rfl (x := num) rfl rfl (Nat.le_of_ble_eq_true rfl) (hP_ce.trans rfl) dX3_begin_35 (fun uz2 euz2 H locs hN => ?_)
    refine lv_aload_n hx hb dX3_begin_38 rfl (lv_at hl 0 rfl) ?_
    refine lv_iload_n hx hb dX3_begin_39 rfl (lv_at hl 2 rfl) ?_
    refine rr_put C hN (kP i) (kP_lt hNn hi) hP_ce rfl kw_X3_begin_X3 3 (by decide) (List.mem_of_getElem? (i := 4) rfl) rfl (x := ed) rfl rfl (Nat.le_of_ble_eq_true rfl) (hP_ce.trans rfl) dX3_begin_40 (fun uz3 euz3 H locs hN => ?_)
    refine lv_aload_n hx hb dX3_begin_43 rfl (lv_at hl 0 rfl) ?_
    refine lv_iconst (v := 1) hx hb dX3_begin_44 (by decide) ?_
    refine rr_put C hN (kP i) (kP_lt hNn hi) hP_ce rfl kw_X3_begin_X3 4 (by decide) (List.mem_of_getElem? (i := 5) rfl) rfl (x := 1) rfl rfl (Nat.le_of_ble_eq_true rfl) (hP_ce.trans rfl) dX3_begin_45 (fun uz4 euz4 H locs hN => ?_)
    refine lv_aload_n hx hb dX3_begin_48 rfl (lv_at hl 0 rfl) ?_
    refine lv_iconst (v := 0) hx hb dX3_begin_49 (by decide) ?_
    refine rr_put C hN (kP i) (kP_lt hNn hi) hP_ce rfl kw_X3_begin_X3 5 (by decide) (List.mem_of_getElem? (i := 6) rfl) rfl (x := 0) rfl rfl (Nat.le_of_ble_eq_true rfl) (hP_ce.trans rfl) dX3_begin_50 (fun uz5 euz5 H locs hN => ?_)
    refine lv_aload_n hx hb dX3_begin_53 rfl (lv_at hl 0 rfl) ?_
    refine lv_iload_n hx hb dX3_begin_54 rfl (lv_at hl 1 rfl) ?_
    refine rr_put C hN (kP i) (kP_lt hNn hi) hP_ce rfl kw_X3_begin_X3 6 (by decide) (List.mem_of_getElem? (i := 7) rfl) rfl (x := num) rfl rfl (Nat.le_of_ble_eq_true rfl) (hP_ce.trans rfl) dX3_begin_55 (fun uz6 euz6 H locs hN => ?_)
    refine lv_aload_n hx hb dX3_begin_58 rfl (lv_at hl 0 rfl) ?_
    refine lv_iconst (v := 0) hx hb dX3_begin_59 (by decide) ?_
    refine rr_put C hN (kP i) (kP_lt hNn hi) hP_ce rfl kw_X3_begin_X3 7 (by decide) (List.mem_of_getElem? (i := 8) rfl) rfl (x := 0) (by decide) (by decide) (Nat.le_of_ble_eq_true rfl) (hP_ce.trans rfl) dX3_begin_60 (fun uz7 euz7 H locs hN => ?_)
    exact rr_vret C hN dX3_begin_63 hr (hu.trans (by subst_vars; rfl))
  | succ d ih =>
    intro k x u hkd hxk hr hu H locs ls hN hl
    refine lv_iload hx hb dX3_begin_3 (lv_at hl 5 rfl) ?_
    refine lv_iload hx hb dX3_begin_5 (lv_at hl 4 rfl) ?_
    refine lv_icmp_ge (tgt := 27) hx hb dX3_begin_7 (by decide) (fun c_7 => absurd c_7 (by rw [hcm, hxk]; exact nI_ge (by omega) (by omega))) (fun c_7 => ?_)
    refine lv_aload_n hx hb dX3_begin_10 rfl (lv_at hl 0 rfl) ?_
    refine rr_get C hN (kP i) (kP_lt hNn hi) hP_ce rfl kw_X3_begin_X3 0 (by decide) (List.mem_of_getElem? (i := 1) rfl) (v := .ref (B (kQ i))) rfl dX3_begin_11 ?_
    refine lv_iload hx hb dX3_begin_14 (lv_at hl 5 rfl) ?_
    refine lv_aload_n hx hb dX3_begin_16 rfl (lv_at hl 3 rfl) ?_
    refine lv_iload hx hb dX3_begin_17 (lv_at hl 5 rfl) ?_
    refine rr_bald C hN 31 (Nat.lt_of_lt_of_le (by decide) hNB) rfl (by decide) k (by omega) hxk dX3_begin_19 ?_
    refine rr_bast C hN (kQ i) (kQ_lt hNn hi) (fun _ => hQ_ce) (by decide) k (by omega) hxk dX3_begin_20 (fun us1 eus1 H locs hN => ?_)
    obtain ⟨vs2, evs2⟩ : ∃ y9 : Int32, y9 = x + 1 := ⟨_, rfl⟩
    refine lv_iinc (v := vs2) (lv' := [(5, .int vs2), (0, .ref (B (kP i))), (1, .int num), (2, .int ed), (3, .ref (B 31)), (4, .int cnt)]) hx hb dX3_begin_21 hl (k := 5) rfl (by rw [evs2]; rfl) (by decide) rfl (fun ls hl => ?_)
    refine lv_goto (tgt := 3) hx hb dX3_begin_24 (by decide) ?_
    exact ih (k + 1) vs2 us1 (by omega) (by rw [evs2, hxk]; exact nI_1 k) (hr.trans (by subst_vars; first | rfl | (simp only [cu_begin]; done) | (simp only [cu_begin]; (repeat' split) <;> first | rfl | contradiction | simp_all))) (hu.trans (by subst_vars; first | rfl | (simp only [cu_begin]; done) | (simp only [cu_begin]; (repeat' split) <;> first | rfl | contradiction | simp_all))) H locs ls hN (lv_sub hl [1, 2, 3, 4, 5, 0] rfl)
set_option maxHeartbeats 4000000 in
set_option maxRecDepth 100000 in
theorem ct_X3_begin (l : Launch) {D : va_G} {ca : Nat → ClassId} {B : Nat → Nat} {N n : Nat} {X : va_W} {u : ww_U} {i : Nat} (hi : i < n) (num ed : Int32) {cnt : Int32} {mm : Nat} (hm : mm ≤ 256) (hcm : cnt = nI mm) (hNn : 36 + 8 * n ≤ N)  : ww_M l yX3_begin wsX3_begin ({ frames := 0, cells := 0, slots := 0, locals := 0 } : Room) D ca B N n X u [.ref (B (kP i)), .int num, .int ed, .ref (B 31), .int cnt] none (cu_beg mm i num ed u) := by
  refine ww_met (cc := cX3_begin) (maxL := 6) (ret := none) (by decide) rfl (Nat.le_of_ble_eq_true rfl) ?_
  intro p e s m args below meth c C hN ls hl
  have hl : lv_has ls 6 [(0, .ref (B (kP i))), (1, .int num), (2, .int ed), (3, .ref (B 31)), (4, .int cnt)] := hl
  have hx := C.1.1
  have hb := C.1.2.1
  have hNB : 36 ≤ N := by omega
  have hNN : 29 ≤ N := by omega
  refine lv_iconst (v := 0) hx hb dX3_begin_0 (by decide) ?_
  refine lv_istore (lv' := [(5, .int 0), (0, .ref (B (kP i))), (1, .int num), (2, .int ed), (3, .ref (B 31)), (4, .int cnt)]) hx hb dX3_begin_1 hl (by decide) rfl (fun ls hl => ?_)
  exact lp_X3_begin C hNn hi num ed cnt hm hcm mm 0 0 u (by omega) rfl rfl (by rw [hcm]; rfl) _ _ _ hN (lv_sub hl [1, 2, 3, 4, 5, 0] rfl)
def cu_octet (u : ww_U) (x : Int32) (g : Nat) : ww_U := if g < 256 then ww_up (ww_up u 31 g (vp_nar .byte x)) 29 4 (nI (g + 1)) else u
theorem cu_oct_lt {a : Int32} {g : Nat} (hg : g ≤ 256) (hge : a = nI g) (h : ¬ 256 ≤ a) : g < 256 := by
  rcases Nat.lt_or_ge g 256 with q | q
  · exact q
  · exact absurd (by rw [hge]; exact nI_le q (by omega)) h
set_option maxRecDepth 20000 in
theorem kw_X4_octet_X4 : ww_K wsX4_octet RX4 TX4 8 tyX4 := ⟨by decide +kernel, tyX4_ok, nmX4⟩
set_option maxHeartbeats 4000000 in
set_option maxRecDepth 100000 in
theorem ct_X4_octet (l : Launch) {D : va_G} {ca : Nat → ClassId} {B : Nat → Nat} {N n : Nat} {X : va_W} {u : ww_U} (x : Int32) {g : Nat} (hg : g ≤ 256) (hge : u 29 4 = nI g) (hNn : 36 + 8 * n ≤ N)  : ww_M l yX4_octet wsX4_octet ({ frames := 0, cells := 0, slots := 0, locals := 0 } : Room) D ca B N n X u [.ref (B 29), .int x] none (cu_octet u x g) := by
  refine ww_met (cc := cX4_octet) (maxL := 2) (ret := none) (by decide) rfl (Nat.le_of_ble_eq_true rfl) ?_
  intro p e s m args below meth c C hN ls hl
  have hl : lv_has ls 2 [(0, .ref (B 29)), (1, .int x)] := hl
  have hx := C.1.1
  have hb := C.1.2.1
  have hNB : 36 ≤ N := by omega
  have hNN : 29 ≤ N := by omega
  refine lv_aload_n hx hb dX4_octet_0 rfl (lv_at hl 0 rfl) ?_
  refine rr_get C hN 29 (Nat.lt_of_lt_of_le (by decide) hNB) rfl rfl kw_X4_octet_X4 4 (by decide) (List.mem_of_getElem? (i := 1) rfl) (v := .int (u 29 4)) rfl dX4_octet_1 ?_
  refine lv_sipush (v := 256) hx hb dX4_octet_4 (by decide) ?_
  refine lv_icmp_ge (tgt := 30) hx hb dX4_octet_7 (by decide) (fun c_7 => ?_) (fun c_7 => ?_)
  · exact rr_vret C hN dX4_octet_30 rfl (by unfold cu_octet; rw [if_neg (fun h => nI_ge h (by decide) (by rw [← hge]; exact c_7))])
  · refine lv_aload_n hx hb dX4_octet_10 rfl (lv_at hl 0 rfl) ?_
    refine rr_get C hN 29 (Nat.lt_of_lt_of_le (by decide) hNB) rfl rfl kw_X4_octet_X4 3 (by decide) (List.mem_of_getElem? (i := 2) rfl) (v := .ref (B 31)) rfl dX4_octet_11 ?_
    refine lv_aload_n hx hb dX4_octet_14 rfl (lv_at hl 0 rfl) ?_
    refine rr_get C hN 29 (Nat.lt_of_lt_of_le (by decide) hNB) rfl rfl kw_X4_octet_X4 4 (by decide) (List.mem_of_getElem? (i := 1) rfl) (v := .int (u 29 4)) rfl dX4_octet_15 ?_
    refine lv_iload_n hx hb dX4_octet_18 rfl (lv_at hl 1 rfl) ?_
    refine rr_bast C hN 31 (Nat.lt_of_lt_of_le (by decide) hNB) (fun _ => rfl) (by decide) g (cu_oct_lt hg hge c_7) hge dX4_octet_19 (fun u1 eu1 H locs hN => ?_)
    refine lv_aload_n hx hb dX4_octet_20 rfl (lv_at hl 0 rfl) ?_
    refine lv_dup hx hb dX4_octet_21 rfl ?_
    refine rr_get C hN 29 (Nat.lt_of_lt_of_le (by decide) hNB) rfl rfl kw_X4_octet_X4 4 (by decide) (List.mem_of_getElem? (i := 1) rfl) (v := .int (u1 29 4)) rfl dX4_octet_22 ?_
    refine lv_iconst (v := 1) hx hb dX4_octet_25 (by decide) ?_
    refine lv_iadd hx hb dX4_octet_26 ?_
    refine lv_topi (fun v2 ev2 => ?_)
    refine rr_put C hN 29 (Nat.lt_of_lt_of_le (by decide) hNB) rfl rfl kw_X4_octet_X4 4 (by decide) (List.mem_of_getElem? (i := 1) rfl) rfl (x := v2) rfl rfl (Nat.le_of_ble_eq_true rfl) ((Eq.refl _).trans rfl) dX4_octet_27 (fun u3 eu3 H locs hN => ?_)
    exact rr_vret C hN dX4_octet_30 rfl (by unfold cu_octet; rw [if_pos (cu_oct_lt hg hge c_7)]; subst_vars; rw [ww_up_ne (by decide), hge, nI_1])
def cu_cond (u : ww_U) (x z : Int32) : ww_U × Int32 := if x = 0 then (ww_up u 29 5 z, cu_hold (ww_up u 29 5 z)) else if x = 1 then (ww_up u 29 6 z, cu_hold (ww_up u 29 6 z)) else (u, -1)
theorem cu_hold_1 {u : ww_U} (h : ¬ cu_hold u = 0) : cu_hold u = 1 := by
  unfold cu_hold at h ⊢
  (repeat' split) <;> simp_all
set_option maxRecDepth 20000 in
theorem kw_X4_condition_X4 : ww_K wsX4_condition RX4 TX4 8 tyX4 := ⟨by decide +kernel, tyX4_ok, nmX4⟩
set_option maxHeartbeats 4000000 in
set_option maxRecDepth 100000 in
theorem ct_X4_condition (l : Launch) {D : va_G} {ca : Nat → ClassId} {B : Nat → Nat} {N n : Nat} {X : va_W} {u : ww_U} (x z : Int32) (hz : z = 0 ∨ z = 1) (hNn : 36 + 8 * n ≤ N)  : ww_M l yX4_condition wsX4_condition ({ frames := 1, cells := 0, slots := 0, locals := 20 } : Room) D ca B N n X u [.ref (B 29), .int x, .int z] (some (.int (cu_cond u x z).2)) (cu_cond u x z).1 := by
  refine ww_met (cc := cX4_condition) (maxL := 3) (ret := (some .int)) (by decide) rfl (Nat.le_of_ble_eq_true rfl) ?_
  intro p e s m args below meth c C hN ls hl
  have hl : lv_has ls 3 [(0, .ref (B 29)), (1, .int x), (2, .int z)] := hl
  have hx := C.1.1
  have hb := C.1.2.1
  have hNB : 36 ≤ N := by omega
  have hNN : 29 ≤ N := by omega
  refine lv_iload_n hx hb dX4_condition_0 rfl (lv_at hl 1 rfl) ?_
  refine lv_if_ne (tgt := 12) hx hb dX4_condition_1 (by decide) (fun c_1 => ?_) (fun c_1 => ?_)
  · refine lv_iload_n hx hb dX4_condition_12 rfl (lv_at hl 1 rfl) ?_
    refine lv_iconst (v := 1) hx hb dX4_condition_13 (by decide) ?_
    refine lv_icmp_ne (tgt := 25) hx hb dX4_condition_14 (by decide) (fun c_14 => ?_) (fun c_14 => ?_)
    · refine lv_iconst (v := (-1)) hx hb dX4_condition_25 (by decide) ?_
      exact rr_iret C hN dX4_condition_26 (by unfold cu_cond; rw [if_neg c_1, if_neg c_14]) (by unfold cu_cond; (first | rw [if_pos c_1] | rw [if_neg c_1, if_pos c_14] | rw [if_neg c_1, if_neg c_14]); try (subst_vars; rfl))
    · refine lv_aload_n hx hb dX4_condition_17 rfl (lv_at hl 0 rfl) ?_
      refine lv_iload_n hx hb dX4_condition_18 rfl (lv_at hl 2 rfl) ?_
      refine rr_put C hN 29 (Nat.lt_of_lt_of_le (by decide) hNB) rfl rfl kw_X4_condition_X4 6 (by decide) (List.mem_of_getElem? (i := 2) rfl) rfl (x := z) (by rcases hz with rfl | rfl <;> rfl) (by rcases hz with rfl | rfl <;> rfl) (Nat.le_of_ble_eq_true rfl) ((Eq.refl _).trans rfl) dX4_condition_19 (fun u1 eu1 H locs hN => ?_)
      refine lv_goto (tgt := 27) hx hb dX4_condition_22 (by decide) ?_
      refine lv_aload_n hx hb dX4_condition_27 rfl (lv_at hl 0 rfl) ?_
      refine rr_callV (As := []) C hN 29 (Nat.lt_of_lt_of_le (by decide) hNB) rfl rfl rfl (ct_X4_bothHold l hNn) gX4_condition_X4_bothHold rfl rfl rfl 0 (by decide +kernel) ⟨Nat.le_of_ble_eq_true rfl, Nat.le_of_ble_eq_true rfl⟩ rfl hl.1 rfl (Nat.le_of_ble_eq_true rfl) ⟨Nat.zero_le _, Nat.zero_le _⟩ dX4_condition_28 (fun H locs hN => ?_)
      refine lv_topi (fun v2 ev2 => ?_)
      refine lv_if_eq (tgt := 38) hx hb dX4_condition_31 (by decide) (fun c_31 => ?_) (fun c_31 => ?_)
      · refine lv_iconst (v := 0) hx hb dX4_condition_38 (by decide) ?_
        exact rr_iret C hN dX4_condition_39 (by rw [ev2, eu1] at c_31; unfold cu_cond; (first | rw [if_pos c_1] | rw [if_neg c_1, if_pos c_14]); first | exact congrArg (fun q => some (Value.int q)) c_31 | exact congrArg (fun q => some (Value.int q)) (cu_hold_1 c_31)) (by unfold cu_cond; (first | rw [if_pos c_1] | rw [if_neg c_1, if_pos c_14] | rw [if_neg c_1, if_neg c_14]); try (subst_vars; rfl))
      · refine lv_iconst (v := 1) hx hb dX4_condition_34 (by decide) ?_
        refine lv_goto (tgt := 39) hx hb dX4_condition_35 (by decide) ?_
        exact rr_iret C hN dX4_condition_39 (by rw [ev2, eu1] at c_31; unfold cu_cond; (first | rw [if_pos c_1] | rw [if_neg c_1, if_pos c_14]); first | exact congrArg (fun q => some (Value.int q)) c_31 | exact congrArg (fun q => some (Value.int q)) (cu_hold_1 c_31)) (by unfold cu_cond; (first | rw [if_pos c_1] | rw [if_neg c_1, if_pos c_14] | rw [if_neg c_1, if_neg c_14]); try (subst_vars; rfl))
  · refine lv_aload_n hx hb dX4_condition_4 rfl (lv_at hl 0 rfl) ?_
    refine lv_iload_n hx hb dX4_condition_5 rfl (lv_at hl 2 rfl) ?_
    refine rr_put C hN 29 (Nat.lt_of_lt_of_le (by decide) hNB) rfl rfl kw_X4_condition_X4 5 (by decide) (List.mem_of_getElem? (i := 1) rfl) rfl (x := z) (by rcases hz with rfl | rfl <;> rfl) (by rcases hz with rfl | rfl <;> rfl) (Nat.le_of_ble_eq_true rfl) ((Eq.refl _).trans rfl) dX4_condition_6 (fun u3 eu3 H locs hN => ?_)
    refine lv_goto (tgt := 27) hx hb dX4_condition_9 (by decide) ?_
    refine lv_aload_n hx hb dX4_condition_27 rfl (lv_at hl 0 rfl) ?_
    refine rr_callV (As := []) C hN 29 (Nat.lt_of_lt_of_le (by decide) hNB) rfl rfl rfl (ct_X4_bothHold l hNn) gX4_condition_X4_bothHold rfl rfl rfl 0 (by decide +kernel) ⟨Nat.le_of_ble_eq_true rfl, Nat.le_of_ble_eq_true rfl⟩ rfl hl.1 rfl (Nat.le_of_ble_eq_true rfl) ⟨Nat.zero_le _, Nat.zero_le _⟩ dX4_condition_28 (fun H locs hN => ?_)
    refine lv_topi (fun v4 ev4 => ?_)
    refine lv_if_eq (tgt := 38) hx hb dX4_condition_31 (by decide) (fun c_31 => ?_) (fun c_31 => ?_)
    · refine lv_iconst (v := 0) hx hb dX4_condition_38 (by decide) ?_
      exact rr_iret C hN dX4_condition_39 (by rw [ev4, eu3] at c_31; unfold cu_cond; (first | rw [if_pos c_1] | rw [if_neg c_1, if_pos c_14]); first | exact congrArg (fun q => some (Value.int q)) c_31 | exact congrArg (fun q => some (Value.int q)) (cu_hold_1 c_31)) (by unfold cu_cond; (first | rw [if_pos c_1] | rw [if_neg c_1, if_pos c_14] | rw [if_neg c_1, if_neg c_14]); try (subst_vars; rfl))
    · refine lv_iconst (v := 1) hx hb dX4_condition_34 (by decide) ?_
      refine lv_goto (tgt := 39) hx hb dX4_condition_35 (by decide) ?_
      exact rr_iret C hN dX4_condition_39 (by rw [ev4, eu3] at c_31; unfold cu_cond; (first | rw [if_pos c_1] | rw [if_neg c_1, if_pos c_14]); first | exact congrArg (fun q => some (Value.int q)) c_31 | exact congrArg (fun q => some (Value.int q)) (cu_hold_1 c_31)) (by unfold cu_cond; (first | rw [if_pos c_1] | rw [if_neg c_1, if_pos c_14] | rw [if_neg c_1, if_neg c_14]); try (subst_vars; rfl))
set_option maxHeartbeats 4000000 in
set_option maxRecDepth 100000 in
theorem ct_X4_block0 (l : Launch) {D : va_G} {ca : Nat → ClassId} {B : Nat → Nat} {N n : Nat} {X : va_W} {u : ww_U} {x : Int32} (h : x < 1 ∨ u 29 1 < x) (y : Int32) (z : Int32) (hNn : 36 + 8 * n ≤ N)  : ww_M l yX4_block wsX4_block ({ frames := 1, cells := 0, slots := 0, locals := 21 } : Room) D ca B N n X u [.ref (B 29), .int x, .int y, .int z] (some (.int (-1))) u := by
  refine ww_met (cc := cX4_block) (maxL := 5) (ret := (some .int)) (by decide) rfl (Nat.le_of_ble_eq_true rfl) ?_
  intro p e s m args below meth c C hN ls hl
  have hl : lv_has ls 5 [(0, .ref (B 29)), (1, .int x), (2, .int y), (3, .int z)] := hl
  have hx := C.1.1
  have hb := C.1.2.1
  have hNB : 36 ≤ N := by omega
  have hNN : 29 ≤ N := by omega
  refine lv_aload_n hx hb dX4_block_0 rfl (lv_at hl 0 rfl) ?_
  refine lv_iload_n hx hb dX4_block_1 rfl (lv_at hl 1 rfl) ?_
  refine rr_callV (As := [.int x]) C hN 29 (Nat.lt_of_lt_of_le (by decide) hNB) rfl rfl rfl (ct_X4_find0 l h hNn) gX4_block_X4_find rfl rfl rfl 1 (by decide +kernel) ⟨Nat.le_of_ble_eq_true rfl, Nat.le_of_ble_eq_true rfl⟩ rfl hl.1 rfl (Nat.le_of_ble_eq_true rfl) ⟨Nat.zero_le _, Nat.zero_le _⟩ dX4_block_2 (fun H locs hN => ?_)
  refine lv_astoreN (lv' := [(4, .null), (0, .ref (B 29)), (1, .int x), (2, .int y), (3, .int z)]) hx hb dX4_block_5 hl (by decide) rfl (fun ls hl => ?_)
  refine lv_aloadN hx hb dX4_block_7 (lv_at hl 0 rfl) ?_
  refine lv_ifnonnullN hx hb dX4_block_9 ?_
  refine lv_iconst (v := (-1)) hx hb dX4_block_12 (by decide) ?_
  exact rr_iret C hN dX4_block_13 rfl rfl
set_option maxHeartbeats 4000000 in
set_option maxRecDepth 100000 in
theorem ct_X4_silent0 (l : Launch) {D : va_G} {ca : Nat → ClassId} {B : Nat → Nat} {N n : Nat} {X : va_W} {u : ww_U} {x : Int32} (h : x < 1 ∨ u 29 1 < x) (z : Int32) (hNn : 36 + 8 * n ≤ N)  : ww_M l yX4_silent wsX4_silent ({ frames := 1, cells := 0, slots := 0, locals := 21 } : Room) D ca B N n X u [.ref (B 29), .int x, .int z] (some (.int (-1))) u := by
  refine ww_met (cc := cX4_silent) (maxL := 5) (ret := (some .int)) (by decide) rfl (Nat.le_of_ble_eq_true rfl) ?_
  intro p e s m args below meth c C hN ls hl
  have hl : lv_has ls 5 [(0, .ref (B 29)), (1, .int x), (2, .int z)] := hl
  have hx := C.1.1
  have hb := C.1.2.1
  have hNB : 36 ≤ N := by omega
  have hNN : 29 ≤ N := by omega
  refine lv_aload_n hx hb dX4_silent_0 rfl (lv_at hl 0 rfl) ?_
  refine lv_iload_n hx hb dX4_silent_1 rfl (lv_at hl 1 rfl) ?_
  refine rr_callV (As := [.int x]) C hN 29 (Nat.lt_of_lt_of_le (by decide) hNB) rfl rfl rfl (ct_X4_find0 l h hNn) gX4_silent_X4_find rfl rfl rfl 1 (by decide +kernel) ⟨Nat.le_of_ble_eq_true rfl, Nat.le_of_ble_eq_true rfl⟩ rfl hl.1 rfl (Nat.le_of_ble_eq_true rfl) ⟨Nat.zero_le _, Nat.zero_le _⟩ dX4_silent_2 (fun H locs hN => ?_)
  refine lv_astore_nN (lv' := [(3, .null), (0, .ref (B 29)), (1, .int x), (2, .int z)]) hx hb dX4_silent_5 rfl hl (by decide) rfl (fun ls hl => ?_)
  refine lv_aload_nN hx hb dX4_silent_6 rfl (lv_at hl 0 rfl) ?_
  refine lv_ifnonnullN hx hb dX4_silent_7 ?_
  refine lv_iconst (v := (-1)) hx hb dX4_silent_10 (by decide) ?_
  exact rr_iret C hN dX4_silent_11 rfl rfl
set_option maxHeartbeats 4000000 in
set_option maxRecDepth 100000 in
theorem ct_X4_counter0 (l : Launch) {D : va_G} {ca : Nat → ClassId} {B : Nat → Nat} {N n : Nat} {X : va_W} {u : ww_U} {x : Int32} (h : x < 1 ∨ u 29 1 < x) (hNn : 36 + 8 * n ≤ N)  : ww_M l yX4_counter wsX4_counter ({ frames := 1, cells := 0, slots := 0, locals := 21 } : Room) D ca B N n X u [.ref (B 29), .int x] (some (.int (-1))) u := by
  refine ww_met (cc := cX4_counter) (maxL := 3) (ret := (some .int)) (by decide) rfl (Nat.le_of_ble_eq_true rfl) ?_
  intro p e s m args below meth c C hN ls hl
  have hl : lv_has ls 3 [(0, .ref (B 29)), (1, .int x)] := hl
  have hx := C.1.1
  have hb := C.1.2.1
  have hNB : 36 ≤ N := by omega
  have hNN : 29 ≤ N := by omega
  refine lv_aload_n hx hb dX4_counter_0 rfl (lv_at hl 0 rfl) ?_
  refine lv_iload_n hx hb dX4_counter_1 rfl (lv_at hl 1 rfl) ?_
  refine rr_callV (As := [.int x]) C hN 29 (Nat.lt_of_lt_of_le (by decide) hNB) rfl rfl rfl (ct_X4_find0 l h hNn) gX4_counter_X4_find rfl rfl rfl 1 (by decide +kernel) ⟨Nat.le_of_ble_eq_true rfl, Nat.le_of_ble_eq_true rfl⟩ rfl hl.1 rfl (Nat.le_of_ble_eq_true rfl) ⟨Nat.zero_le _, Nat.zero_le _⟩ dX4_counter_2 (fun H locs hN => ?_)
  refine lv_astore_nN (lv' := [(2, .null), (0, .ref (B 29)), (1, .int x)]) hx hb dX4_counter_5 rfl hl (by decide) rfl (fun ls hl => ?_)
  refine lv_aload_nN hx hb dX4_counter_6 rfl (lv_at hl 0 rfl) ?_
  refine lv_ifnonnullN hx hb dX4_counter_7 ?_
  refine lv_iconst (v := (-1)) hx hb dX4_counter_10 (by decide) ?_
  exact rr_iret C hN dX4_counter_11 rfl rfl
set_option maxHeartbeats 4000000 in
set_option maxRecDepth 100000 in
theorem ct_X4_boot0 (l : Launch) {D : va_G} {ca : Nat → ClassId} {B : Nat → Nat} {N n : Nat} {X : va_W} {u : ww_U} {x : Int32} (h : x < 1 ∨ u 29 1 < x) (hNn : 36 + 8 * n ≤ N)  : ww_M l yX4_boot wsX4_boot ({ frames := 3, cells := 0, slots := 0, locals := 65 } : Room) D ca B N n X u [.ref (B 29), .int x] (some (.int (-1))) u := by
  refine ww_met (cc := cX4_boot) (maxL := 3) (ret := (some .int)) (by decide) rfl (Nat.le_of_ble_eq_true rfl) ?_
  intro p e s m args below meth c C hN ls hl
  have hl : lv_has ls 3 [(0, .ref (B 29)), (1, .int x)] := hl
  have hx := C.1.1
  have hb := C.1.2.1
  have hNB : 36 ≤ N := by omega
  have hNN : 29 ≤ N := by omega
  refine lv_aload_n hx hb dX4_boot_0 rfl (lv_at hl 0 rfl) ?_
  refine lv_iload_n hx hb dX4_boot_1 rfl (lv_at hl 1 rfl) ?_
  refine rr_callV (As := [.int x]) C hN 29 (Nat.lt_of_lt_of_le (by decide) hNB) rfl rfl rfl (ct_X4_find0 l h hNn) gX4_boot_X4_find rfl rfl rfl 1 (by decide +kernel) ⟨Nat.le_of_ble_eq_true rfl, Nat.le_of_ble_eq_true rfl⟩ rfl hl.1 rfl (Nat.le_of_ble_eq_true rfl) ⟨Nat.zero_le _, Nat.zero_le _⟩ dX4_boot_2 (fun H locs hN => ?_)
  refine lv_astore_nN (lv' := [(2, .null), (0, .ref (B 29)), (1, .int x)]) hx hb dX4_boot_5 rfl hl (by decide) rfl (fun ls hl => ?_)
  refine lv_aload_nN hx hb dX4_boot_6 rfl (lv_at hl 0 rfl) ?_
  refine lv_ifnonnullN hx hb dX4_boot_7 ?_
  refine lv_iconst (v := (-1)) hx hb dX4_boot_10 (by decide) ?_
  exact rr_iret C hN dX4_boot_11 rfl rfl
def cu_block (u : ww_U) (j : Nat) (y z : Int32) : ww_U × Int32 := if y < 0 then (u, -2) else if 16 ≤ y then (u, -2) else if z = 0 then (u, -2) else (ww_up (ww_up u (kC j) 7 y) (kC j) 8 z, 1)
def cu_silent (u : ww_U) (j : Nat) (z : Int32) : Int32 := if u (kC j) 6 = z then 0 else 1
set_option maxRecDepth 20000 in
theorem kw_X4_block_X1 : ww_K wsX4_block RX1 TX1 10 tyX1 := ⟨by decide +kernel, tyX1_ok, nmX1⟩
set_option maxHeartbeats 4000000 in
set_option maxRecDepth 100000 in
theorem ct_X4_block (l : Launch) {D : va_G} {ca : Nat → ClassId} {B : Nat → Nat} {N n : Nat} {X : va_W} {u : ww_U} {x : Int32} (j : Nat) (hj : j < 8) (hj2 : j < n) (hxj : x = nI (j + 1)) (hx1 : ¬ x < 1) (hx2 : x ≤ u 29 1) (y z : Int32) (hby : z.toInt8.toInt32 = z) (hNn : 36 + 8 * n ≤ N)  : ww_M l yX4_block wsX4_block ({ frames := 1, cells := 0, slots := 0, locals := 21 } : Room) D ca B N n X u [.ref (B 29), .int x, .int y, .int z] (some (.int (cu_block u j y z).2)) (cu_block u j y z).1 := by
  refine ww_met (cc := cX4_block) (maxL := 5) (ret := (some .int)) (by decide) rfl (Nat.le_of_ble_eq_true rfl) ?_
  intro p e s m args below meth c C hN ls hl
  have hl : lv_has ls 5 [(0, .ref (B 29)), (1, .int x), (2, .int y), (3, .int z)] := hl
  have hx := C.1.1
  have hb := C.1.2.1
  have hNB : 36 ≤ N := by omega
  have hNN : 29 ≤ N := by omega
  refine lv_aload_n hx hb dX4_block_0 rfl (lv_at hl 0 rfl) ?_
  refine lv_iload_n hx hb dX4_block_1 rfl (lv_at hl 1 rfl) ?_
  refine rr_callV (As := [.int x]) C hN 29 (Nat.lt_of_lt_of_le (by decide) hNB) rfl rfl rfl (ct_X4_find l j hj hj2 hxj hNn hx1 hx2) gX4_block_X4_find rfl rfl rfl 1 (by decide +kernel) ⟨Nat.le_of_ble_eq_true rfl, Nat.le_of_ble_eq_true rfl⟩ rfl hl.1 rfl (Nat.le_of_ble_eq_true rfl) ⟨Nat.zero_le _, Nat.zero_le _⟩ dX4_block_2 (fun H locs hN => ?_)
  refine lv_astore (lv' := [(4, .ref (B (kC j))), (0, .ref (B 29)), (1, .int x), (2, .int y), (3, .int z)]) hx hb dX4_block_5 hl (by decide) rfl (fun ls hl => ?_)
  refine lv_aload hx hb dX4_block_7 (lv_at hl 0 rfl) ?_
  refine lv_ifnonnull (tgt := 14) hx hb dX4_block_9 (by decide) ?_
  refine lv_iload_n hx hb dX4_block_14 rfl (lv_at hl 3 rfl) ?_
  refine lv_if_lt (tgt := 28) hx hb dX4_block_15 (by decide) (fun c_15 => ?_) (fun c_15 => ?_)
  · refine lv_bipush (v := (-2)) hx hb dX4_block_28 (by decide) ?_
    exact rr_iret C hN dX4_block_30 (by subst_vars; first | rfl | (simp only [cu_block]; done) | (simp only [cu_block]; (repeat' split) <;> first | rfl | contradiction | simp_all)) (by subst_vars; first | rfl | (simp only [cu_block]; done) | (simp only [cu_block]; (repeat' split) <;> first | rfl | contradiction | simp_all))
  · refine lv_iload_n hx hb dX4_block_18 rfl (lv_at hl 3 rfl) ?_
    refine lv_bipush (v := 16) hx hb dX4_block_19 (by decide) ?_
    refine lv_icmp_ge (tgt := 28) hx hb dX4_block_21 (by decide) (fun c_21 => ?_) (fun c_21 => ?_)
    · refine lv_bipush (v := (-2)) hx hb dX4_block_28 (by decide) ?_
      exact rr_iret C hN dX4_block_30 (by subst_vars; first | rfl | (simp only [cu_block]; done) | (simp only [cu_block]; (repeat' split) <;> first | rfl | contradiction | simp_all)) (by subst_vars; first | rfl | (simp only [cu_block]; done) | (simp only [cu_block]; (repeat' split) <;> first | rfl | contradiction | simp_all))
    · refine lv_iload_n hx hb dX4_block_24 rfl (lv_at hl 4 rfl) ?_
      refine lv_if_ne (tgt := 31) hx hb dX4_block_25 (by decide) (fun c_25 => ?_) (fun c_25 => ?_)
      · refine lv_aload hx hb dX4_block_31 (lv_at hl 0 rfl) ?_
        refine lv_iload_n hx hb dX4_block_33 rfl (lv_at hl 3 rfl) ?_
        refine rr_put C hN (kC j) (kC_lt hNn hj2) hC_ce rfl kw_X4_block_X1 7 (by decide) (List.mem_of_getElem? (i := 1) rfl) rfl (x := y) rfl rfl (Nat.le_of_ble_eq_true rfl) (hC_ce.trans rfl) dX4_block_34 (fun u1 eu1 H locs hN => ?_)
        refine lv_aload hx hb dX4_block_37 (lv_at hl 0 rfl) ?_
        refine lv_iload_n hx hb dX4_block_39 rfl (lv_at hl 4 rfl) ?_
        refine rr_put C hN (kC j) (kC_lt hNn hj2) hC_ce rfl kw_X4_block_X1 8 (by decide) (List.mem_of_getElem? (i := 2) rfl) rfl (x := z) (by rw [← hby]; exact pk_nb _) (by rw [← hby]; exact pk_fb _) (Nat.le_of_ble_eq_true rfl) (hC_ce.trans rfl) dX4_block_40 (fun u2 eu2 H locs hN => ?_)
        refine lv_iconst (v := 1) hx hb dX4_block_43 (by decide) ?_
        exact rr_iret C hN dX4_block_44 (by subst_vars; first | rfl | (simp only [cu_block]; done) | (simp only [cu_block]; (repeat' split) <;> first | rfl | contradiction | simp_all)) (by subst_vars; first | rfl | (simp only [cu_block]; done) | (simp only [cu_block]; (repeat' split) <;> first | rfl | contradiction | simp_all))
      · refine lv_bipush (v := (-2)) hx hb dX4_block_28 (by decide) ?_
        exact rr_iret C hN dX4_block_30 (by subst_vars; first | rfl | (simp only [cu_block]; done) | (simp only [cu_block]; (repeat' split) <;> first | rfl | contradiction | simp_all)) (by subst_vars; first | rfl | (simp only [cu_block]; done) | (simp only [cu_block]; (repeat' split) <;> first | rfl | contradiction | simp_all))
set_option maxRecDepth 20000 in
theorem kw_X4_silent_X1 : ww_K wsX4_silent RX1 TX1 10 tyX1 := ⟨by decide +kernel, tyX1_ok, nmX1⟩
set_option maxHeartbeats 4000000 in
set_option maxRecDepth 100000 in
theorem ct_X4_silent (l : Launch) {D : va_G} {ca : Nat → ClassId} {B : Nat → Nat} {N n : Nat} {X : va_W} {u : ww_U} {x : Int32} (j : Nat) (hj : j < 8) (hj2 : j < n) (hxj : x = nI (j + 1)) (hx1 : ¬ x < 1) (hx2 : x ≤ u 29 1) (z : Int32) (hz : z = 0 ∨ z = 1) (hNn : 36 + 8 * n ≤ N)  : ww_M l yX4_silent wsX4_silent ({ frames := 1, cells := 0, slots := 0, locals := 21 } : Room) D ca B N n X u [.ref (B 29), .int x, .int z] (some (.int (cu_silent u j z))) (ww_up u (kC j) 6 z) := by
  refine ww_met (cc := cX4_silent) (maxL := 5) (ret := (some .int)) (by decide) rfl (Nat.le_of_ble_eq_true rfl) ?_
  intro p e s m args below meth c C hN ls hl
  have hl : lv_has ls 5 [(0, .ref (B 29)), (1, .int x), (2, .int z)] := hl
  have hx := C.1.1
  have hb := C.1.2.1
  have hNB : 36 ≤ N := by omega
  have hNN : 29 ≤ N := by omega
  refine lv_aload_n hx hb dX4_silent_0 rfl (lv_at hl 0 rfl) ?_
  refine lv_iload_n hx hb dX4_silent_1 rfl (lv_at hl 1 rfl) ?_
  refine rr_callV (As := [.int x]) C hN 29 (Nat.lt_of_lt_of_le (by decide) hNB) rfl rfl rfl (ct_X4_find l j hj hj2 hxj hNn hx1 hx2) gX4_silent_X4_find rfl rfl rfl 1 (by decide +kernel) ⟨Nat.le_of_ble_eq_true rfl, Nat.le_of_ble_eq_true rfl⟩ rfl hl.1 rfl (Nat.le_of_ble_eq_true rfl) ⟨Nat.zero_le _, Nat.zero_le _⟩ dX4_silent_2 (fun H locs hN => ?_)
  refine lv_astore_n (lv' := [(3, .ref (B (kC j))), (0, .ref (B 29)), (1, .int x), (2, .int z)]) hx hb dX4_silent_5 rfl hl (by decide) rfl (fun ls hl => ?_)
  refine lv_aload_n hx hb dX4_silent_6 rfl (lv_at hl 0 rfl) ?_
  refine lv_ifnonnull (tgt := 12) hx hb dX4_silent_7 (by decide) ?_
  refine lv_aload_n hx hb dX4_silent_12 rfl (lv_at hl 0 rfl) ?_
  refine rr_get C hN (kC j) (kC_lt hNn hj2) hC_ce rfl kw_X4_silent_X1 6 (by decide) (List.mem_of_getElem? (i := 1) rfl) (v := .int (u (kC j) 6)) rfl dX4_silent_13 ?_
  refine lv_iload_n hx hb dX4_silent_16 rfl (lv_at hl 3 rfl) ?_
  refine lv_icmp_eq (tgt := 24) hx hb dX4_silent_17 (by decide) (fun c_17 => ?_) (fun c_17 => ?_)
  · refine lv_iconst (v := 0) hx hb dX4_silent_24 (by decide) ?_
    refine lv_istore (lv' := [(4, .int 0), (3, .ref (B (kC j))), (0, .ref (B 29)), (1, .int x), (2, .int z)]) hx hb dX4_silent_25 hl (by decide) rfl (fun ls hl => ?_)
    refine lv_aload_n hx hb dX4_silent_27 rfl (lv_at hl 1 rfl) ?_
    refine lv_iload_n hx hb dX4_silent_28 rfl (lv_at hl 4 rfl) ?_
    refine rr_put C hN (kC j) (kC_lt hNn hj2) hC_ce rfl kw_X4_silent_X1 6 (by decide) (List.mem_of_getElem? (i := 1) rfl) rfl (x := z) (by rcases hz with rfl | rfl <;> rfl) (by rcases hz with rfl | rfl <;> rfl) (Nat.le_of_ble_eq_true rfl) (hC_ce.trans rfl) dX4_silent_29 (fun u1 eu1 H locs hN => ?_)
    refine lv_iload hx hb dX4_silent_32 (lv_at hl 0 rfl) ?_
    refine lv_if_eq (tgt := 41) hx hb dX4_silent_34 (by decide) (fun c_34 => ?_) (fun c_34 => absurd c_34 (by decide))
    refine lv_iconst (v := 0) hx hb dX4_silent_41 (by decide) ?_
    exact rr_iret C hN dX4_silent_42 (by subst_vars; first | rfl | (simp only [cu_silent]; done) | (simp only [cu_silent]; (repeat' split) <;> first | rfl | contradiction | simp_all)) (by subst_vars; first | rfl | (done) | ((repeat' split) <;> first | rfl | contradiction | simp_all))
  · refine lv_iconst (v := 1) hx hb dX4_silent_20 (by decide) ?_
    refine lv_goto (tgt := 25) hx hb dX4_silent_21 (by decide) ?_
    refine lv_istore (lv' := [(4, .int 1), (3, .ref (B (kC j))), (0, .ref (B 29)), (1, .int x), (2, .int z)]) hx hb dX4_silent_25 hl (by decide) rfl (fun ls hl => ?_)
    refine lv_aload_n hx hb dX4_silent_27 rfl (lv_at hl 1 rfl) ?_
    refine lv_iload_n hx hb dX4_silent_28 rfl (lv_at hl 4 rfl) ?_
    refine rr_put C hN (kC j) (kC_lt hNn hj2) hC_ce rfl kw_X4_silent_X1 6 (by decide) (List.mem_of_getElem? (i := 1) rfl) rfl (x := z) (by rcases hz with rfl | rfl <;> rfl) (by rcases hz with rfl | rfl <;> rfl) (Nat.le_of_ble_eq_true rfl) (hC_ce.trans rfl) dX4_silent_29 (fun u2 eu2 H locs hN => ?_)
    refine lv_iload hx hb dX4_silent_32 (lv_at hl 0 rfl) ?_
    refine lv_if_eq (tgt := 41) hx hb dX4_silent_34 (by decide) (fun c_34 => absurd c_34 (by decide)) (fun c_34 => ?_)
    refine lv_iconst (v := 1) hx hb dX4_silent_37 (by decide) ?_
    refine lv_goto (tgt := 42) hx hb dX4_silent_38 (by decide) ?_
    exact rr_iret C hN dX4_silent_42 (by subst_vars; first | rfl | (simp only [cu_silent]; done) | (simp only [cu_silent]; (repeat' split) <;> first | rfl | contradiction | simp_all)) (by subst_vars; first | rfl | (done) | ((repeat' split) <;> first | rfl | contradiction | simp_all))
set_option maxRecDepth 20000 in
theorem kw_X4_counter_X1 : ww_K wsX4_counter RX1 TX1 10 tyX1 := ⟨by decide +kernel, tyX1_ok, nmX1⟩
set_option maxHeartbeats 4000000 in
set_option maxRecDepth 100000 in
theorem ct_X4_counter (l : Launch) {D : va_G} {ca : Nat → ClassId} {B : Nat → Nat} {N n : Nat} {X : va_W} {u : ww_U} {x : Int32} (j : Nat) (hj : j < 8) (hj2 : j < n) (hxj : x = nI (j + 1)) (hx1 : ¬ x < 1) (hx2 : x ≤ u 29 1) (hNn : 36 + 8 * n ≤ N)  : ww_M l yX4_counter wsX4_counter ({ frames := 1, cells := 0, slots := 0, locals := 21 } : Room) D ca B N n X u [.ref (B 29), .int x] (some (.int (u (kC j) 4))) u := by
  refine ww_met (cc := cX4_counter) (maxL := 3) (ret := (some .int)) (by decide) rfl (Nat.le_of_ble_eq_true rfl) ?_
  intro p e s m args below meth c C hN ls hl
  have hl : lv_has ls 3 [(0, .ref (B 29)), (1, .int x)] := hl
  have hx := C.1.1
  have hb := C.1.2.1
  have hNB : 36 ≤ N := by omega
  have hNN : 29 ≤ N := by omega
  refine lv_aload_n hx hb dX4_counter_0 rfl (lv_at hl 0 rfl) ?_
  refine lv_iload_n hx hb dX4_counter_1 rfl (lv_at hl 1 rfl) ?_
  refine rr_callV (As := [.int x]) C hN 29 (Nat.lt_of_lt_of_le (by decide) hNB) rfl rfl rfl (ct_X4_find l j hj hj2 hxj hNn hx1 hx2) gX4_counter_X4_find rfl rfl rfl 1 (by decide +kernel) ⟨Nat.le_of_ble_eq_true rfl, Nat.le_of_ble_eq_true rfl⟩ rfl hl.1 rfl (Nat.le_of_ble_eq_true rfl) ⟨Nat.zero_le _, Nat.zero_le _⟩ dX4_counter_2 (fun H locs hN => ?_)
  refine lv_astore_n (lv' := [(2, .ref (B (kC j))), (0, .ref (B 29)), (1, .int x)]) hx hb dX4_counter_5 rfl hl (by decide) rfl (fun ls hl => ?_)
  refine lv_aload_n hx hb dX4_counter_6 rfl (lv_at hl 0 rfl) ?_
  refine lv_ifnonnull (tgt := 12) hx hb dX4_counter_7 (by decide) ?_
  refine lv_aload_n hx hb dX4_counter_12 rfl (lv_at hl 0 rfl) ?_
  refine rr_get C hN (kC j) (kC_lt hNn hj2) hC_ce rfl kw_X4_counter_X1 4 (by decide) (List.mem_of_getElem? (i := 1) rfl) (v := .int (u (kC j) 4)) rfl dX4_counter_13 ?_
  exact rr_iret C hN dX4_counter_16 rfl rfl
