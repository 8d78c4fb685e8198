set_option maxRecDepth 20000 in
theorem kw_X1_completeBank_X0 : ww_K wsX1_completeBank RX0 TX0 3 tyX0 := ⟨by decide +kernel, tyX0_ok, nmX0⟩
set_option maxRecDepth 20000 in
theorem kw_X1_completeBank_X1 : ww_K wsX1_completeBank RX1 TX1 10 tyX1 := ⟨by decide +kernel, tyX1_ok, nmX1⟩
set_option maxRecDepth 20000 in
theorem kw_X1_completeBank_X3 : ww_K wsX1_completeBank RX3 TX3 8 tyX3 := ⟨by decide +kernel, tyX3_ok, nmX3⟩
set_option maxHeartbeats 4000000 in
set_option maxRecDepth 100000 in
theorem lp_X1_completeBank {p : Program} {l : Launch} {e : Env} {s : State} {m : MethodId} {args : Array Value} {below : List Frame} {meth : Method} {c : Code} {D : va_G} {ca : Nat → ClassId} {B : Nat → Nat} {N n : Nat} {X : va_W} (C : ww_C D ca yX1_completeBank.cls cX1_completeBank 3 wsX1_completeBank none (ww_A B N X s.heap.size) p s m args meth c) (hNn : 36 + 8 * n ≤ N) {i : Nat} (hi : i < n) {b : Nat} (hb2 : b < 2)  {r : Option Value} {u' : ww_U} : ∀ (d k : Nat) (x : Int32) (u : ww_U), k + d = 256 → (x = nI k) → r = none → u' = ww_up (ww_up (ww_up (cu_zero d k i b u) (kB i b) 1 (cu_zero d k i b u (kP i) 3)) (kB i b) 2 (ww_up (cu_zero d k i b u) (kB i b) 1 (cu_zero d k i b u (kP i) 3) (kP i) 2)) (kP i) 4 2 → ∀ (H : Heap) (locs : List Loc) (ls : Array Slot), ww_N D ca B N n u X (ww_A B N X s.heap.size) s.heap H locs → lv_has ls 3 [(0, .ref (B (kC i))), (1, .ref (B (kB i b))), (2, .int x)] → W p l e (headSpec wsX1_completeBank ({ frames := 0, cells := 0, slots := 0, locals := 0 } : Room)).room s m args below meth c H locs 0 0 (MQ below (ww_Q D ca B N n X s.heap.size r u') args s 0 0 (ww_A B N X s.heap.size)) (F0 m 8 ls []) := by
  have hx := C.1.1
  have hb := C.1.2.1
  have hNB : 36 ≤ N := by omega
  have hNN : 29 ≤ N := by omega
  intro d
  induction d with
  | zero =>
    intro k x u hkd hxk hr hu H locs ls hN hl
    refine lv_iload_n hx hb dX1_completeBank_8 rfl (lv_at hl 2 rfl) ?_
    refine lv_sipush (v := 256) hx hb dX1_completeBank_9 (by decide) ?_
    refine lv_icmp_ge (tgt := 28) hx hb dX1_completeBank_12 (by decide) (fun c_12 => ?_) (fun c_12 => absurd c_12 (fun h => h (by rw [hxk, show k = 256 by omega]; decide)))
    refine lv_aload_n hx hb dX1_completeBank_28 rfl (lv_at hl 1 rfl) ?_
    refine lv_aload_n hx hb dX1_completeBank_29 rfl (lv_at hl 0 rfl) ?_
    refine rr_get C hN (kC i) (kC_lt hNn hi) hC_ce rfl kw_X1_completeBank_X1 2 (by decide) (List.mem_of_getElem? (i := 1) rfl) (v := .ref (B (kP i))) rfl dX1_completeBank_30 ?_
    refine rr_get C hN (kP i) (kP_lt hNn hi) hP_ce rfl kw_X1_completeBank_X3 3 (by decide) (List.mem_of_getElem? (i := 4) rfl) (v := .int (u (kP i) 3)) rfl dX1_completeBank_33 ?_
    refine rr_put C hN (kB i b) (kB_lt hNn hi hb2) (hB_ce hb2) rfl kw_X1_completeBank_X0 1 (by decide) (List.mem_of_getElem? (i := 5) rfl) rfl (x := (u (kP i) 3)) rfl rfl (Nat.le_of_ble_eq_true rfl) ((hB_ce hb2).trans rfl) dX1_completeBank_36 (fun uz1 euz1 H locs hN => ?_)
    refine lv_aload_n hx hb dX1_completeBank_39 rfl (lv_at hl 1 rfl) ?_
    refine lv_aload_n hx hb dX1_completeBank_40 rfl (lv_at hl 0 rfl) ?_
    refine rr_get C hN (kC i) (kC_lt hNn hi) hC_ce rfl kw_X1_completeBank_X1 2 (by decide) (List.mem_of_getElem? (i := 1) rfl) (v := .ref (B (kP i))) rfl dX1_completeBank_41 ?_
    refine rr_get C hN (kP i) (kP_lt hNn hi) hP_ce rfl kw_X1_completeBank_X3 2 (by decide) (List.mem_of_getElem? (i := 6) rfl) (v := .int (uz1 (kP i) 2)) rfl dX1_completeBank_44 ?_
    refine rr_put C hN (kB i b) (kB_lt hNn hi hb2) (hB_ce hb2) rfl kw_X1_completeBank_X0 2 (by decide) (List.mem_of_getElem? (i := 7) rfl) rfl (x := (uz1 (kP i) 2)) rfl rfl (Nat.le_of_ble_eq_true rfl) ((hB_ce hb2).trans rfl) dX1_completeBank_47 (fun uz2 euz2 H locs hN => ?_)
    refine lv_aload_n hx hb dX1_completeBank_50 rfl (lv_at hl 0 rfl) ?_
    refine rr_get C hN (kC i) (kC_lt hNn hi) hC_ce rfl kw_X1_completeBank_X1 2 (by decide) (List.mem_of_getElem? (i := 1) rfl) (v := .ref (B (kP i))) rfl dX1_completeBank_51 ?_
    refine lv_iconst (v := 2) hx hb dX1_completeBank_54 (by decide) ?_
    refine rr_put C hN (kP i) (kP_lt hNn hi) hP_ce rfl kw_X1_completeBank_X3 4 (by decide) (List.mem_of_getElem? (i := 8) rfl) rfl (x := 2) rfl rfl (Nat.le_of_ble_eq_true rfl) (hP_ce.trans rfl) dX1_completeBank_55 (fun uz3 euz3 H locs hN => ?_)
    exact rr_vret C hN dX1_completeBank_58 hr (hu.trans (by subst_vars; rfl))
  | succ d ih =>
    intro k x u hkd hxk hr hu H locs ls hN hl
    refine lv_iload_n hx hb dX1_completeBank_8 rfl (lv_at hl 2 rfl) ?_
    refine lv_sipush (v := 256) hx hb dX1_completeBank_9 (by decide) ?_
    refine lv_icmp_ge (tgt := 28) hx hb dX1_completeBank_12 (by decide) (fun c_12 => absurd c_12 (by rw [hxk]; exact (show ¬ nI 256 ≤ nI k from nI_ge (by omega) (by decide)))) (fun c_12 => ?_)
    refine lv_aload_n hx hb dX1_completeBank_15 rfl (lv_at hl 1 rfl) ?_
    refine rr_get C hN (kB i b) (kB_lt hNn hi hb2) (hB_ce hb2) rfl kw_X1_completeBank_X0 0 (by decide) (List.mem_of_getElem? (i := 3) rfl) (v := .ref (B (kO i b))) rfl dX1_completeBank_16 ?_
    refine lv_iload_n hx hb dX1_completeBank_19 rfl (lv_at hl 2 rfl) ?_
    refine lv_iconst (v := 0) hx hb dX1_completeBank_20 (by decide) ?_
    refine rr_bast C hN (kO i b) (kO_lt hNn hi hb2) (fun _ => hO_ce hb2) (by decide) k (by omega) hxk dX1_completeBank_21 (fun us1 eus1 H locs hN => ?_)
    obtain ⟨vs2, evs2⟩ : ∃ y9 : Int32, y9 = x + 1 := ⟨_, rfl⟩
    refine lv_iinc (v := vs2) (lv' := [(2, .int vs2), (0, .ref (B (kC i))), (1, .ref (B (kB i b)))]) hx hb dX1_completeBank_22 hl (k := 2) rfl (by rw [evs2]; rfl) (by decide) rfl (fun ls hl => ?_)
    refine lv_goto (tgt := 8) hx hb dX1_completeBank_25 (by decide) ?_
    exact ih (k + 1) vs2 us1 (by omega) (by rw [evs2, hxk]; exact nI_1 k) (hr.trans (by subst_vars; first | rfl | (simp only [cu_zero]; done) | (simp only [cu_zero]; (repeat' split) <;> first | rfl | contradiction | simp_all))) (hu.trans (by subst_vars; first | rfl | (simp only [cu_zero]; done) | (simp only [cu_zero]; (repeat' split) <;> first | rfl | contradiction | simp_all))) H locs ls hN (lv_sub hl [1, 2, 0] rfl)
set_option maxHeartbeats 4000000 in
set_option maxRecDepth 100000 in
theorem ct_X1_completeBank (l : Launch) {D : va_G} {ca : Nat → ClassId} {B : Nat → Nat} {N n : Nat} {X : va_W} {u : ww_U} {i : Nat} (hi : i < n) {b : Nat} (hb2 : b < 2) {len : Nat} (hlen : len ≤ 256) (hle : u (kP i) 1 = nI len) (hNn : 36 + 8 * n ≤ N)  : ww_M l yX1_completeBank wsX1_completeBank ({ frames := 0, cells := 0, slots := 0, locals := 0 } : Room) D ca B N n X u [.ref (B (kC i)), .ref (B (kB i b))] none (cu_comp u i b len) := by
  refine ww_met (cc := cX1_completeBank) (maxL := 3) (ret := none) (by decide) rfl (Nat.le_of_ble_eq_true rfl) ?_
  intro p e s m args below meth c C hN ls hl
  have hl : lv_has ls 3 [(0, .ref (B (kC i))), (1, .ref (B (kB i b)))] := hl
  have hx := C.1.1
  have hb := C.1.2.1
  have hNB : 36 ≤ N := by omega
  have hNN : 29 ≤ N := by omega
  refine lv_aload_n hx hb dX1_completeBank_0 rfl (lv_at hl 0 rfl) ?_
  refine rr_get C hN (kC i) (kC_lt hNn hi) hC_ce rfl kw_X1_completeBank_X1 2 (by decide) (List.mem_of_getElem? (i := 1) rfl) (v := .ref (B (kP i))) rfl dX1_completeBank_1 ?_
  refine rr_get C hN (kP i) (kP_lt hNn hi) hP_ce rfl kw_X1_completeBank_X3 1 (by decide) (List.mem_of_getElem? (i := 2) rfl) (v := .int (u (kP i) 1)) rfl dX1_completeBank_4 ?_
  refine lv_istore_n (lv' := [(2, .int (u (kP i) 1)), (0, .ref (B (kC i))), (1, .ref (B (kB i b)))]) hx hb dX1_completeBank_7 rfl hl (by decide) rfl (fun ls hl => ?_)
  exact lp_X1_completeBank C hNn hi hb2 (256 - len) len (u (kP i) 1) u (by omega) hle rfl rfl _ _ _ hN (lv_sub hl [1, 2, 0] rfl)
theorem cu_ifx {x y : ww_U} (a l : Nat) : (if a < l then x else y) = (if min a l = l then y else x) := by
  by_cases h : a < l
  · rw [if_pos h, if_neg (by omega)]
  · rw [if_neg h, if_pos (by omega)]
theorem cu_wl_q {d k i b : Nat} {f : Int32} {u : ww_U} : cu_wl d k i b f u (kP i) = u (kP i) := cu_wl_ne (by simp only [kP, kO]; omega)
theorem cu_wl_c {d k i b : Nat} {f : Int32} {u : ww_U} : cu_wl d k i b f u (kC i) = u (kC i) := cu_wl_ne (by simp only [kC, kO]; omega)
theorem cu_min {w len : Nat} {a c : Int32} (hl : len ≤ 256) (hw : 16 * w < len) (ha : a = nI (16 * w + 16)) (hc : c = nI len) : (if c < a then c else a) = nI (min (16 * w + 16) len) := by
  rw [ha, hc]
  by_cases h : len < 16 * w + 16
  · rw [if_pos (nI_lt h (by omega))]; congr 1; omega
  · rw [if_neg (nI_nlt (by omega) (by omega))]; congr 1; omega
set_option maxRecDepth 20000 in
theorem kw_X1_writeNextBlock_X1 : ww_K wsX1_writeNextBlock RX1 TX1 10 tyX1 := ⟨by decide +kernel, tyX1_ok, nmX1⟩
set_option maxRecDepth 20000 in
theorem kw_X1_writeNextBlock_X3 : ww_K wsX1_writeNextBlock RX3 TX3 8 tyX3 := ⟨by decide +kernel, tyX3_ok, nmX3⟩
set_option maxRecDepth 20000 in
theorem kw_X1_writeNextBlock_X0 : ww_K wsX1_writeNextBlock RX0 TX0 3 tyX0 := ⟨by decide +kernel, tyX0_ok, nmX0⟩
set_option maxHeartbeats 4000000 in
set_option maxRecDepth 100000 in
theorem lp_X1_writeNextBlock {p : Program} {l : Launch} {e : Env} {s : State} {m : MethodId} {args : Array Value} {below : List Frame} {meth : Method} {c : Code} {D : va_G} {ca : Nat → ClassId} {B : Nat → Nat} {N n : Nat} {X : va_W} (C : ww_C D ca yX1_writeNextBlock.cls cX1_writeNextBlock 7 wsX1_writeNextBlock none (ww_A B N X s.heap.size) p s m args meth c) (hNn : 36 + 8 * n ≤ N) {i : Nat} (hi : i < n) {b : Nat} (hb2 : b < 2) {e1 len : Nat} (hlen : len ≤ 256) (he1 : e1 ≤ len) (fr en fq fl w5 : Int32) (hen : en = nI e1)  {r : Option Value} {u' : ww_U} : ∀ (d k : Nat) (x : Int32) (u : ww_U), k + d = e1 → (x = nI k) → (u (kP i) 1 = nI len) → (u (kP i) 5 = w5) → r = none → u' = (if fq = 0 then (if e1 = len then cu_comp (ww_up (cu_wl d k i b fl u) (kP i) 5 (w5 + 1)) i b len else ww_up (cu_wl d k i b fl u) (kP i) 5 (w5 + 1)) else ww_up (cu_wl d k i b fl u) (kC i) 8 0) → ∀ (H : Heap) (locs : List Loc) (ls : Array Slot), ww_N D ca B N n u X (ww_A B N X s.heap.size) s.heap H locs → lv_has ls 7 [(0, .ref (B (kC i))), (1, .ref (B (kB i b))), (2, .int fr), (3, .int en), (4, .int fq), (5, .int fl), (6, .int x)] → W p l e (headSpec wsX1_writeNextBlock ({ frames := 1, cells := 0, slots := 0, locals := 40 } : Room)).room s m args below meth c H locs 0 0 (MQ below (ww_Q D ca B N n X s.heap.size r u') args s 0 0 (ww_A B N X s.heap.size)) (F0 m 84 ls []) := by
  have hx := C.1.1
  have hb := C.1.2.1
  have hNB : 36 ≤ N := by omega
  have hNN : 29 ≤ N := by omega
  intro d
  induction d with
  | zero =>
    intro k x u hkd hxk hle hw5 hr hu H locs ls hN hl
    refine lv_iload hx hb dX1_writeNextBlock_84 (lv_at hl 6 rfl) ?_
    refine lv_iload_n hx hb dX1_writeNextBlock_86 rfl (lv_at hl 3 rfl) ?_
    refine lv_icmp_ge (tgt := 117) hx hb dX1_writeNextBlock_87 (by decide) (fun c_87 => ?_) (fun c_87 => absurd c_87 (fun h => h (by rw [hen, hxk, show k = e1 by omega]; exact nI_le (Nat.le_refl _) (by omega))))
    refine lv_iload hx hb dX1_writeNextBlock_117 (lv_at hl 4 rfl) ?_
    refine lv_if_eq (tgt := 128) hx hb dX1_writeNextBlock_119 (by decide) (fun c_119 => ?_) (fun c_119 => ?_)
    · refine lv_aload_n hx hb dX1_writeNextBlock_128 rfl (lv_at hl 0 rfl) ?_
      refine rr_get C hN (kC i) (kC_lt hNn hi) hC_ce rfl kw_X1_writeNextBlock_X1 2 (by decide) (List.mem_of_getElem? (i := 3) rfl) (v := .ref (B (kP i))) rfl dX1_writeNextBlock_129 ?_
      refine lv_dup hx hb dX1_writeNextBlock_132 rfl ?_
      refine rr_get C hN (kP i) (kP_lt hNn hi) hP_ce rfl kw_X1_writeNextBlock_X3 5 (by decide) (List.mem_of_getElem? (i := 4) rfl) (v := .int (u (kP i) 5)) rfl dX1_writeNextBlock_133 ?_
      refine lv_iconst (v := 1) hx hb dX1_writeNextBlock_136 (by decide) ?_
      refine lv_iadd hx hb dX1_writeNextBlock_137 ?_
      refine lv_topi (fun vz1 evz1 => ?_)
      refine rr_put C hN (kP i) (kP_lt hNn hi) hP_ce rfl kw_X1_writeNextBlock_X3 5 (by decide) (List.mem_of_getElem? (i := 4) rfl) rfl (x := vz1) rfl rfl (Nat.le_of_ble_eq_true rfl) (hP_ce.trans rfl) dX1_writeNextBlock_138 (fun uz2 euz2 H locs hN => ?_)
      refine lv_iload_n hx hb dX1_writeNextBlock_141 rfl (lv_at hl 3 rfl) ?_
      refine lv_aload_n hx hb dX1_writeNextBlock_142 rfl (lv_at hl 0 rfl) ?_
      refine rr_get C hN (kC i) (kC_lt hNn hi) hC_ce rfl kw_X1_writeNextBlock_X1 2 (by decide) (List.mem_of_getElem? (i := 3) rfl) (v := .ref (B (kP i))) rfl dX1_writeNextBlock_143 ?_
      refine rr_get C hN (kP i) (kP_lt hNn hi) hP_ce rfl kw_X1_writeNextBlock_X3 1 (by decide) (List.mem_of_getElem? (i := 5) rfl) (v := .int (uz2 (kP i) 1)) rfl dX1_writeNextBlock_146 ?_
      refine lv_icmp_ne (tgt := 157) hx hb dX1_writeNextBlock_149 (by decide) (fun c_149 => ?_) (fun c_149 => ?_)
      · exact rr_vret C hN dX1_writeNextBlock_157 hr (hu.trans (by first | (rw [if_neg c_119]; subst_vars; rfl) | (rw [if_pos c_119, if_neg (fun h => c_149 (by subst_vars; rw [ww_up_nj (by decide), hle]))]; subst_vars; rfl) | (rw [if_pos c_119, if_pos ((nI_eq (by omega) (by omega)).mp (by rw [← hen, c_149]; subst_vars; rw [ww_up_nj (by decide), hle]))]; subst_vars; rfl)))
      · refine lv_aload_n hx hb dX1_writeNextBlock_152 rfl (lv_at hl 0 rfl) ?_
        refine lv_aload_n hx hb dX1_writeNextBlock_153 rfl (lv_at hl 1 rfl) ?_
        refine rr_callV0 (As := [.ref (B (kB i b))]) C hN (kC i) (kC_lt hNn hi) hC_ce rfl rfl (ct_X1_completeBank l hi hb2 hlen (by subst_vars; rw [ww_up_nj (by decide)]; first | exact hle | (rw [cu_wl_q]; exact hle)) hNn) gX1_writeNextBlock_X1_completeBank rfl rfl rfl 1 (by decide +kernel) ⟨Nat.le_of_ble_eq_true rfl, Nat.le_of_ble_eq_true rfl⟩ rfl hl.1 rfl (Nat.le_of_ble_eq_true rfl) ⟨Nat.zero_le _, Nat.zero_le _⟩ dX1_writeNextBlock_154 (fun H locs hN => ?_)
        obtain ⟨uz3, euz3⟩ : ∃ y : ww_U, y = cu_comp uz2 i b len := ⟨_, rfl⟩
        rw [← euz3] at hN
        exact rr_vret C hN dX1_writeNextBlock_157 hr (hu.trans (by first | (rw [if_neg c_119]; subst_vars; rfl) | (rw [if_pos c_119, if_neg (fun h => c_149 (by subst_vars; rw [ww_up_nj (by decide), hle]))]; subst_vars; rfl) | (rw [if_pos c_119, if_pos ((nI_eq (by omega) (by omega)).mp (by rw [← hen, c_149]; subst_vars; rw [ww_up_nj (by decide), hle]))]; subst_vars; rfl)))
    · refine lv_aload_n hx hb dX1_writeNextBlock_122 rfl (lv_at hl 0 rfl) ?_
      refine lv_iconst (v := 0) hx hb dX1_writeNextBlock_123 (by decide) ?_
      refine rr_put C hN (kC i) (kC_lt hNn hi) hC_ce rfl kw_X1_writeNextBlock_X1 8 (by decide) (List.mem_of_getElem? (i := 10) rfl) rfl (x := 0) (by decide) (by decide) (Nat.le_of_ble_eq_true rfl) (hC_ce.trans rfl) dX1_writeNextBlock_124 (fun uz4 euz4 H locs hN => ?_)
      exact rr_vret C hN dX1_writeNextBlock_127 hr (hu.trans (by first | (rw [if_neg c_119]; subst_vars; rfl) | (rw [if_pos c_119, if_neg (fun h => c_149 (by subst_vars; rw [ww_up_nj (by decide), hle]))]; subst_vars; rfl) | (rw [if_pos c_119, if_pos ((nI_eq (by omega) (by omega)).mp (by rw [← hen, c_149]; subst_vars; rw [ww_up_nj (by decide), hle]))]; subst_vars; rfl)))
  | succ d ih =>
    intro k x u hkd hxk hle hw5 hr hu H locs ls hN hl
    refine lv_iload hx hb dX1_writeNextBlock_84 (lv_at hl 6 rfl) ?_
    refine lv_iload_n hx hb dX1_writeNextBlock_86 rfl (lv_at hl 3 rfl) ?_
    refine lv_icmp_ge (tgt := 117) hx hb dX1_writeNextBlock_87 (by decide) (fun c_87 => absurd c_87 (by rw [hen, hxk]; exact nI_ge (by omega) (by omega))) (fun c_87 => ?_)
    refine lv_aload_n hx hb dX1_writeNextBlock_90 rfl (lv_at hl 1 rfl) ?_
    refine rr_get C hN (kB i b) (kB_lt hNn hi hb2) (hB_ce hb2) rfl kw_X1_writeNextBlock_X0 0 (by decide) (List.mem_of_getElem? (i := 12) rfl) (v := .ref (B (kO i b))) rfl dX1_writeNextBlock_91 ?_
    refine lv_iload hx hb dX1_writeNextBlock_94 (lv_at hl 6 rfl) ?_
    refine lv_aload_n hx hb dX1_writeNextBlock_96 rfl (lv_at hl 0 rfl) ?_
    refine rr_get C hN (kC i) (kC_lt hNn hi) hC_ce rfl kw_X1_writeNextBlock_X1 2 (by decide) (List.mem_of_getElem? (i := 3) rfl) (v := .ref (B (kP i))) rfl dX1_writeNextBlock_97 ?_
    refine rr_get C hN (kP i) (kP_lt hNn hi) hP_ce rfl kw_X1_writeNextBlock_X3 0 (by decide) (List.mem_of_getElem? (i := 13) rfl) (v := .ref (B (kQ i))) rfl dX1_writeNextBlock_100 ?_
    refine lv_iload hx hb dX1_writeNextBlock_103 (lv_at hl 6 rfl) ?_
    refine rr_bald C hN (kQ i) (kQ_lt hNn hi) hQ_ce (by decide) k (by omega) hxk dX1_writeNextBlock_105 ?_
    refine lv_iload hx hb dX1_writeNextBlock_106 (lv_at hl 5 rfl) ?_
    refine lv_ixor hx hb dX1_writeNextBlock_108 ?_
    refine lv_topi (fun vs1 evs1 => ?_)
    refine lv_i2b hx hb dX1_writeNextBlock_109 rfl ?_
    refine lv_topi (fun vs2 evs2 => ?_)
    refine rr_bast C hN (kO i b) (kO_lt hNn hi hb2) (fun _ => hO_ce hb2) (by decide) k (by omega) hxk dX1_writeNextBlock_110 (fun us3 eus3 H locs hN => ?_)
    obtain ⟨vs4, evs4⟩ : ∃ y9 : Int32, y9 = x + 1 := ⟨_, rfl⟩
    refine lv_iinc (v := vs4) (lv' := [(6, .int vs4), (0, .ref (B (kC i))), (1, .ref (B (kB i b))), (2, .int fr), (3, .int en), (4, .int fq), (5, .int fl)]) hx hb dX1_writeNextBlock_111 hl (k := 6) rfl (by rw [evs4]; rfl) (by decide) rfl (fun ls hl => ?_)
    refine lv_goto (tgt := 84) hx hb dX1_writeNextBlock_114 (by decide) ?_
    exact ih (k + 1) vs4 us3 (by omega) (by rw [evs4, hxk]; exact nI_1 k) (by subst_vars; rw [ww_up_ne (by simp only [kP, kO]; omega)]; exact hle) (by rw [eus3, ww_up_ne (by simp only [kP, kO]; omega)]; exact hw5) (hr.trans (by subst_vars; first | rfl | (simp only [cu_wl]; done) | (simp only [cu_wl]; (repeat' split) <;> first | rfl | contradiction | simp_all))) (hu.trans (by subst_vars; first | rfl | (simp only [cu_wl]; done) | (simp only [cu_wl]; (repeat' split) <;> first | rfl | contradiction | simp_all))) H locs ls hN (lv_sub hl [1, 2, 3, 4, 5, 6, 0] rfl)
set_option maxHeartbeats 4000000 in
set_option maxRecDepth 100000 in
theorem ct_X1_writeNextBlock (l : Launch) {D : va_G} {ca : Nat → ClassId} {B : Nat → Nat} {N n : Nat} {X : va_W} {u : ww_U} {i : Nat} (hi : i < n) {b w len : Nat} (hb2 : b < 2) (hb3 : u (kC i) 3 = nI (1 - b)) (hlen : len ≤ 256) (hle : u (kP i) 1 = nI len) (hw : 16 * w < len) (hwe : u (kP i) 5 = nI w) (hNn : 36 + 8 * n ≤ N)  : ww_M l yX1_writeNextBlock wsX1_writeNextBlock ({ frames := 1, cells := 0, slots := 0, locals := 40 } : Room) D ca B N n X u [.ref (B (kC i))] none (cu_write u i b w len) := by
  refine ww_met (cc := cX1_writeNextBlock) (maxL := 7) (ret := none) (by decide) rfl (Nat.le_of_ble_eq_true rfl) ?_
  intro p e s m args below meth c C hN ls hl
  have hl : lv_has ls 7 [(0, .ref (B (kC i)))] := hl
  have hx := C.1.1
  have hb := C.1.2.1
  have hNB : 36 ≤ N := by omega
  have hNN : 29 ≤ N := by omega
  refine lv_aload_n hx hb dX1_writeNextBlock_0 rfl (lv_at hl 0 rfl) ?_
  refine rr_get C hN (kC i) (kC_lt hNn hi) hC_ce rfl kw_X1_writeNextBlock_X1 1 (by decide) (List.mem_of_getElem? (i := 1) rfl) (v := .ref (B (kR i))) rfl dX1_writeNextBlock_1 ?_
  refine lv_iconst (v := 1) hx hb dX1_writeNextBlock_4 (by decide) ?_
  refine lv_aload_n hx hb dX1_writeNextBlock_5 rfl (lv_at hl 0 rfl) ?_
  refine rr_get C hN (kC i) (kC_lt hNn hi) hC_ce rfl kw_X1_writeNextBlock_X1 3 (by decide) (List.mem_of_getElem? (i := 2) rfl) (v := .int (u (kC i) 3)) rfl dX1_writeNextBlock_6 ?_
  refine lv_isub hx hb dX1_writeNextBlock_9 ?_
  refine lv_topi (fun v1 ev1 => ?_)
  refine rr_ald C hN (kR i) (kR_lt hNn hi) 4 hR_ce rfl (by decide) b hb2 (by rw [ev1, hb3]; rcases (show b = 0 ∨ b = 1 by omega) with rfl | rfl <;> rfl) (v := .ref (B (kB i b))) rfl dX1_writeNextBlock_10 ?_
  refine lv_astore_n (lv' := [(1, .ref (B (kB i b))), (0, .ref (B (kC i)))]) hx hb dX1_writeNextBlock_11 rfl hl (by decide) rfl (fun ls hl => ?_)
  refine lv_aload_n hx hb dX1_writeNextBlock_12 rfl (lv_at hl 1 rfl) ?_
  refine rr_get C hN (kC i) (kC_lt hNn hi) hC_ce rfl kw_X1_writeNextBlock_X1 2 (by decide) (List.mem_of_getElem? (i := 3) rfl) (v := .ref (B (kP i))) rfl dX1_writeNextBlock_13 ?_
  refine rr_get C hN (kP i) (kP_lt hNn hi) hP_ce rfl kw_X1_writeNextBlock_X3 5 (by decide) (List.mem_of_getElem? (i := 4) rfl) (v := .int (u (kP i) 5)) rfl dX1_writeNextBlock_16 ?_
  refine lv_bipush (v := 16) hx hb dX1_writeNextBlock_19 (by decide) ?_
  refine lv_imul hx hb dX1_writeNextBlock_21 ?_
  refine lv_topi (fun v2 ev2 => ?_)
  refine lv_istore_n (lv' := [(2, .int v2), (1, .ref (B (kB i b))), (0, .ref (B (kC i)))]) hx hb dX1_writeNextBlock_22 rfl hl (by decide) rfl (fun ls hl => ?_)
  refine lv_iload_n hx hb dX1_writeNextBlock_23 rfl (lv_at hl 0 rfl) ?_
  refine lv_bipush (v := 16) hx hb dX1_writeNextBlock_24 (by decide) ?_
  refine lv_iadd hx hb dX1_writeNextBlock_26 ?_
  refine lv_topi (fun v3 ev3 => ?_)
  refine lv_aload_n hx hb dX1_writeNextBlock_27 rfl (lv_at hl 2 rfl) ?_
  refine rr_get C hN (kC i) (kC_lt hNn hi) hC_ce rfl kw_X1_writeNextBlock_X1 2 (by decide) (List.mem_of_getElem? (i := 3) rfl) (v := .ref (B (kP i))) rfl dX1_writeNextBlock_28 ?_
  refine rr_get C hN (kP i) (kP_lt hNn hi) hP_ce rfl kw_X1_writeNextBlock_X3 1 (by decide) (List.mem_of_getElem? (i := 5) rfl) (v := .int (u (kP i) 1)) rfl dX1_writeNextBlock_31 ?_
  refine va_mmin (x := v3) (y := (u (kP i) 1)) hx hb (C.1.2.2.1.trans hl.1.symm) C.1.2.2.2.1 (C.1.2.2.2.2 _ (List.mem_of_getElem? (i := 6) rfl)) (C.1.2.2.2.2 _ (List.mem_of_getElem? (i := 7) rfl)) (C.1.2.2.2.2 _ (List.mem_of_getElem? (i := 8) rfl)) (C.1.2.2.2.2 _ (List.mem_of_getElem? (i := 9) rfl)) (Nat.le_of_ble_eq_true rfl) (Nat.le_of_ble_eq_true rfl) (Nat.zero_le _) (Nat.zero_le _) dX1_writeNextBlock_34 ?_
  refine lv_topi (fun v4 ev4 => ?_)
  refine lv_istore_n (lv' := [(3, .int v4), (2, .int v2), (1, .ref (B (kB i b))), (0, .ref (B (kC i)))]) hx hb dX1_writeNextBlock_37 rfl hl (by decide) rfl (fun ls hl => ?_)
  refine lv_aload_n hx hb dX1_writeNextBlock_38 rfl (lv_at hl 3 rfl) ?_
  refine rr_get C hN (kC i) (kC_lt hNn hi) hC_ce rfl kw_X1_writeNextBlock_X1 8 (by decide) (List.mem_of_getElem? (i := 10) rfl) (v := .int (u (kC i) 8)) rfl dX1_writeNextBlock_39 ?_
  refine lv_if_eq (tgt := 63) hx hb dX1_writeNextBlock_42 (by decide) (fun c_42 => ?_) (fun c_42 => ?_)
  · refine lv_iconst (v := 0) hx hb dX1_writeNextBlock_63 (by decide) ?_
    refine lv_istore (lv' := [(4, .int 0), (3, .int v4), (2, .int v2), (1, .ref (B (kB i b))), (0, .ref (B (kC i)))]) hx hb dX1_writeNextBlock_64 hl (by decide) rfl (fun ls hl => ?_)
    refine lv_iload hx hb dX1_writeNextBlock_66 (lv_at hl 0 rfl) ?_
    refine lv_if_eq (tgt := 78) hx hb dX1_writeNextBlock_68 (by decide) (fun c_68 => ?_) (fun c_68 => absurd c_68 (by decide))
    refine lv_iconst (v := 0) hx hb dX1_writeNextBlock_78 (by decide) ?_
    refine lv_istore (lv' := [(5, .int 0), (4, .int 0), (3, .int v4), (2, .int v2), (1, .ref (B (kB i b))), (0, .ref (B (kC i)))]) hx hb dX1_writeNextBlock_79 hl (by decide) rfl (fun ls hl => ?_)
    refine lv_iload_n hx hb dX1_writeNextBlock_81 rfl (lv_at hl 3 rfl) ?_
    refine lv_istore (lv' := [(6, .int v2), (5, .int 0), (4, .int 0), (3, .int v4), (2, .int v2), (1, .ref (B (kB i b))), (0, .ref (B (kC i)))]) hx hb dX1_writeNextBlock_82 hl (by decide) rfl (fun ls hl => ?_)
    have hfr : v2 = nI (16 * w) := by rw [ev2, hwe]; exact (pk_mul w 16).trans (congrArg nI (Nat.mul_comm w 16))
    have hen : v4 = nI (min (16 * w + 16) len) := by rw [ev4]; exact cu_min hlen hw (by rw [ev3, hfr]; exact nI_add (16 * w) 16) hle
    exact lp_X1_writeNextBlock C hNn hi hb2 hlen (Nat.min_le_right _ _) v2 v4 0 0 (u (kP i) 5) hen (min (16 * w + 16) len - 16 * w) (16 * w) v2 u (by omega) hfr hle rfl rfl (by unfold cu_write; rw [if_neg (fun h => h.1 c_42), if_pos (show (0 : Int32) = 0 from rfl)]; exact cu_ifx _ _) _ _ _ hN (lv_sub hl [6, 5, 4, 3, 2, 1, 0] rfl)
  · refine lv_aload_n hx hb dX1_writeNextBlock_45 rfl (lv_at hl 3 rfl) ?_
    refine rr_get C hN (kC i) (kC_lt hNn hi) hC_ce rfl kw_X1_writeNextBlock_X1 7 (by decide) (List.mem_of_getElem? (i := 11) rfl) (v := .int (u (kC i) 7)) rfl dX1_writeNextBlock_46 ?_
    refine lv_aload_n hx hb dX1_writeNextBlock_49 rfl (lv_at hl 3 rfl) ?_
    refine rr_get C hN (kC i) (kC_lt hNn hi) hC_ce rfl kw_X1_writeNextBlock_X1 2 (by decide) (List.mem_of_getElem? (i := 3) rfl) (v := .ref (B (kP i))) rfl dX1_writeNextBlock_50 ?_
    refine rr_get C hN (kP i) (kP_lt hNn hi) hP_ce rfl kw_X1_writeNextBlock_X3 5 (by decide) (List.mem_of_getElem? (i := 4) rfl) (v := .int (u (kP i) 5)) rfl dX1_writeNextBlock_53 ?_
    refine lv_icmp_ne (tgt := 63) hx hb dX1_writeNextBlock_56 (by decide) (fun c_56 => ?_) (fun c_56 => ?_)
    · refine lv_iconst (v := 0) hx hb dX1_writeNextBlock_63 (by decide) ?_
      refine lv_istore (lv' := [(4, .int 0), (3, .int v4), (2, .int v2), (1, .ref (B (kB i b))), (0, .ref (B (kC i)))]) hx hb dX1_writeNextBlock_64 hl (by decide) rfl (fun ls hl => ?_)
      refine lv_iload hx hb dX1_writeNextBlock_66 (lv_at hl 0 rfl) ?_
      refine lv_if_eq (tgt := 78) hx hb dX1_writeNextBlock_68 (by decide) (fun c_68 => ?_) (fun c_68 => absurd c_68 (by decide))
      refine lv_iconst (v := 0) hx hb dX1_writeNextBlock_78 (by decide) ?_
      refine lv_istore (lv' := [(5, .int 0), (4, .int 0), (3, .int v4), (2, .int v2), (1, .ref (B (kB i b))), (0, .ref (B (kC i)))]) hx hb dX1_writeNextBlock_79 hl (by decide) rfl (fun ls hl => ?_)
      refine lv_iload_n hx hb dX1_writeNextBlock_81 rfl (lv_at hl 3 rfl) ?_
      refine lv_istore (lv' := [(6, .int v2), (5, .int 0), (4, .int 0), (3, .int v4), (2, .int v2), (1, .ref (B (kB i b))), (0, .ref (B (kC i)))]) hx hb dX1_writeNextBlock_82 hl (by decide) rfl (fun ls hl => ?_)
      have hfr : v2 = nI (16 * w) := by rw [ev2, hwe]; exact (pk_mul w 16).trans (congrArg nI (Nat.mul_comm w 16))
      have hen : v4 = nI (min (16 * w + 16) len) := by rw [ev4]; exact cu_min hlen hw (by rw [ev3, hfr]; exact nI_add (16 * w) 16) hle
      exact lp_X1_writeNextBlock C hNn hi hb2 hlen (Nat.min_le_right _ _) v2 v4 0 0 (u (kP i) 5) hen (min (16 * w + 16) len - 16 * w) (16 * w) v2 u (by omega) hfr hle rfl rfl (by unfold cu_write; rw [if_neg (fun h => c_56 h.2), if_pos (show (0 : Int32) = 0 from rfl)]; exact cu_ifx _ _) _ _ _ hN (lv_sub hl [6, 5, 4, 3, 2, 1, 0] rfl)
    · refine lv_iconst (v := 1) hx hb dX1_writeNextBlock_59 (by decide) ?_
      refine lv_goto (tgt := 64) hx hb dX1_writeNextBlock_60 (by decide) ?_
      refine lv_istore (lv' := [(4, .int 1), (3, .int v4), (2, .int v2), (1, .ref (B (kB i b))), (0, .ref (B (kC i)))]) hx hb dX1_writeNextBlock_64 hl (by decide) rfl (fun ls hl => ?_)
      refine lv_iload hx hb dX1_writeNextBlock_66 (lv_at hl 0 rfl) ?_
      refine lv_if_eq (tgt := 78) hx hb dX1_writeNextBlock_68 (by decide) (fun c_68 => absurd c_68 (by decide)) (fun c_68 => ?_)
      refine lv_aload_n hx hb dX1_writeNextBlock_71 rfl (lv_at hl 4 rfl) ?_
      refine rr_get C hN (kC i) (kC_lt hNn hi) hC_ce rfl kw_X1_writeNextBlock_X1 8 (by decide) (List.mem_of_getElem? (i := 10) rfl) (v := .int (u (kC i) 8)) rfl dX1_writeNextBlock_72 ?_
      refine lv_goto (tgt := 79) hx hb dX1_writeNextBlock_75 (by decide) ?_
      refine lv_istore (lv' := [(5, .int (u (kC i) 8)), (4, .int 1), (3, .int v4), (2, .int v2), (1, .ref (B (kB i b))), (0, .ref (B (kC i)))]) hx hb dX1_writeNextBlock_79 hl (by decide) rfl (fun ls hl => ?_)
      refine lv_iload_n hx hb dX1_writeNextBlock_81 rfl (lv_at hl 3 rfl) ?_
      refine lv_istore (lv' := [(6, .int v2), (5, .int (u (kC i) 8)), (4, .int 1), (3, .int v4), (2, .int v2), (1, .ref (B (kB i b))), (0, .ref (B (kC i)))]) hx hb dX1_writeNextBlock_82 hl (by decide) rfl (fun ls hl => ?_)
      have hfr : v2 = nI (16 * w) := by rw [ev2, hwe]; exact (pk_mul w 16).trans (congrArg nI (Nat.mul_comm w 16))
      have hen : v4 = nI (min (16 * w + 16) len) := by rw [ev4]; exact cu_min hlen hw (by rw [ev3, hfr]; exact nI_add (16 * w) 16) hle
      exact lp_X1_writeNextBlock C hNn hi hb2 hlen (Nat.min_le_right _ _) v2 v4 1 (u (kC i) 8) (u (kP i) 5) hen (min (16 * w + 16) len - 16 * w) (16 * w) v2 u (by omega) hfr hle rfl rfl (by unfold cu_write; rw [if_pos ⟨c_42, c_56⟩, if_neg (show ¬ (1 : Int32) = 0 by decide)]) _ _ _ hN (lv_sub hl [6, 5, 4, 3, 2, 1, 0] rfl)
