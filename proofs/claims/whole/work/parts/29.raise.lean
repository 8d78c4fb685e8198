def mo_ra : Nat → Nat → ww_U → ww_U
  | 0, _, u => u
  | d + 1, k, u => mo_ra d (k + 1) (ww_up u 24 k (if k = 0 then 1 else 0))
def mo_rb : Nat → Nat → ww_U → ww_U
  | 0, _, u => u
  | d + 1, k, u => mo_rb d (k + 1) (ww_up u 25 k (u 24 k))
def mo_rc : Nat → Nat → ww_U → ww_U
  | 0, _, u => u
  | d + 1, k, u => mo_rc d (k + 1) (ww_up u 24 k 0)
def mo_c1 (u : ww_U) (x cy : Int64) (a k : Nat) : Int64 := (cy + (u 24 (a + k)).toInt64) + ((x >>> ((16 * nI a).toInt64 &&& 63)) &&& 65535) * (u 25 k).toInt64
def mo_re : Nat → Nat → Nat → Int64 → Int64 → ww_U → ww_U
  | 0, _, _, _, _, u => u
  | d + 1, k, a, x, cy, u => mo_re d (k + 1) a x (mo_c1 u x cy a k >>> ((16 : Int32).toInt64 &&& 63)) (ww_up u 24 (a + k) (mo_c1 u x cy a k &&& 65535).toInt32)
def mo_rf : Nat → Nat → Int64 → ww_U → ww_U
  | 0, _, _, u => u
  | d + 1, k, x, u => mo_rf d (k + 1) x (mo_re (12 - k) 0 k x 0 u)
def mo_rg : Nat → Nat → Int64 → ww_U → ww_U
  | 0, _, _, u => u
  | d + 1, k, x, u => mo_rg d (k + 1) x (mo_rf 3 0 x (mo_rc 12 0 (mo_rb 12 0 u)))
def mo_raise (x : Int64) (t : Nat) (u : ww_U) : ww_U := mo_rg t 0 x (mo_ra 12 0 u)
set_option maxRecDepth 20000 in
theorem kw_X5_raise_X5 : ww_K wsX5_raise RX5 TX5 36 tyX5 := ⟨by decide +kernel, tyX5_ok, nmX5⟩
set_option maxHeartbeats 4000000 in
set_option maxRecDepth 100000 in
theorem lp_X5_ra6 {p : Program} {l : Launch} {e : Env} {s : State} {m : MethodId} {args : Array Value} {below : List Frame} {meth : Method} {c : Code} {D : va_G} {ca : Nat → ClassId} {B : Nat → Nat} {N n : Nat} {X : va_W} (C : ww_C D ca yX5_raise.cls cX5_raise 9 wsX5_raise none (ww_A B N X s.heap.size) p s m args meth c) (hNN : 29 ≤ N) (x : Int64) (tv nv av : Int32) {a0 : Nat} (ha0 : a0 < 3) (hav : av = nI a0) {Q : State → Prop} {uf : ww_U}  (kk : ∀ (H : Heap) (locs : List Loc) (ls : Array Slot), ww_N D ca B N n uf X (ww_A B N X s.heap.size) s.heap H locs → lv_has ls 9 [(0, .ref (B 0)), (1, .long x), (3, .int tv), (4, .int nv), (5, .int av)] → W p l e (headSpec wsX5_raise ({ frames := 0, cells := 0, slots := 0, locals := 0 } : Room)).room s m args below meth c H locs 0 0 Q (F0 m 188 ls [])) : ∀ (d k : Nat) (cy : Int64) (y : Int32) (u : ww_U), k + d = 12 - a0 → (y = nI k) → uf = mo_re d k a0 x cy u → ∀ (H : Heap) (locs : List Loc) (ls : Array Slot), ww_N D ca B N n u X (ww_A B N X s.heap.size) s.heap H locs → lv_has ls 9 [(0, .ref (B 0)), (1, .long x), (3, .int tv), (4, .int nv), (5, .int av), (6, .long cy), (8, .int y)] → W p l e (headSpec wsX5_raise ({ frames := 0, cells := 0, slots := 0, locals := 0 } : Room)).room s m args below meth c H locs 0 0 Q (F0 m 111 ls []) := by
  have hx := C.1.1
  have hb := C.1.2.1
  intro d
  induction d with
  | zero =>
    intro k cy y u hkd hxk hu  H locs ls hN hl
    refine lv_iload hx hb dX5_raise_111 (lv_at hl 4 rfl) ?_
    refine lv_iload hx hb dX5_raise_113 (lv_at hl 6 rfl) ?_
    refine lv_iadd hx hb dX5_raise_115 ?_
    refine lv_topi (fun vz1 evz1 => ?_)
    refine lv_bipush (v := 12) hx hb dX5_raise_116 (by decide) ?_
    refine lv_icmp_ge (tgt := 188) hx hb dX5_raise_118 (by decide) (fun c_118 => ?_) (fun c_118 => absurd c_118 (fun h => h (by rw [evz1, hav, hxk]; exact (show nI 12 ≤ nI a0 + nI k by rw [nI_add]; exact nI_le (by omega) (by omega)))))
    have hE : uf = u := hu
    rw [← hE] at hN
    exact kk H locs ls hN (lv_sub hl [0, 1, 2, 3, 4] rfl)
  | succ d ih =>
    intro k cy y u hkd hxk hu  H locs ls hN hl
    refine lv_iload hx hb dX5_raise_111 (lv_at hl 4 rfl) ?_
    refine lv_iload hx hb dX5_raise_113 (lv_at hl 6 rfl) ?_
    refine lv_iadd hx hb dX5_raise_115 ?_
    refine lv_topi (fun vs1 evs1 => ?_)
    refine lv_bipush (v := 12) hx hb dX5_raise_116 (by decide) ?_
    refine lv_icmp_ge (tgt := 188) hx hb dX5_raise_118 (by decide) (fun c_118 => absurd c_118 (by rw [evs1, hav, hxk]; exact (show ¬ nI 12 ≤ nI a0 + nI k by rw [nI_add]; exact nI_ge (by omega) (by omega)))) (fun c_118 => ?_)
    refine lv_lload hx hb dX5_raise_121 (lv_at hl 5 rfl) ?_
    refine lv_aload_n hx hb dX5_raise_123 rfl (lv_at hl 0 rfl) ?_
    refine rr_get C hN 0 (Nat.lt_of_lt_of_le (by decide) hNN) rfl rfl kw_X5_raise_X5 31 (by decide) (List.mem_of_getElem? (i := 1) rfl) (v := .ref (B 24)) rfl dX5_raise_124 ?_
    refine lv_iload hx hb dX5_raise_127 (lv_at hl 4 rfl) ?_
    refine lv_iload hx hb dX5_raise_129 (lv_at hl 6 rfl) ?_
    refine lv_iadd hx hb dX5_raise_131 ?_
    refine lv_topi (fun vs2 evs2 => ?_)
    refine rr_iald C hN 24 (Nat.lt_of_lt_of_le (by decide) hNN) rfl (by decide) (a0 + k) (by omega) (by rw [evs2, hav, hxk]; exact nI_add a0 k) dX5_raise_132 ?_
    refine lv_i2l hx hb dX5_raise_133 rfl ?_
    refine lv_topl (fun vs3 evs3 => ?_)
    refine lv_ladd hx hb dX5_raise_134 ?_
    refine lv_topl (fun vs4 evs4 => ?_)
    refine lv_lload_n hx hb dX5_raise_135 rfl (lv_at hl 1 rfl) ?_
    refine lv_bipush (v := 16) hx hb dX5_raise_136 (by decide) ?_
    refine lv_iload hx hb dX5_raise_138 (lv_at hl 4 rfl) ?_
    refine lv_imul hx hb dX5_raise_140 ?_
    refine lv_topi (fun vs5 evs5 => ?_)
    refine lv_lshr hx hb dX5_raise_141 rfl ?_
    refine lv_topl (fun vs6 evs6 => ?_)
    refine lv_ldc2 (v := 65535) hx hb C.1.2.2.2.1 (C.1.2.2.2.2 _ (List.mem_of_getElem? (i := 3) rfl)) dX5_raise_142 ?_
    refine lv_land hx hb dX5_raise_145 ?_
    refine lv_topl (fun vs7 evs7 => ?_)
    refine lv_aload_n hx hb dX5_raise_146 rfl (lv_at hl 0 rfl) ?_
    refine rr_get C hN 0 (Nat.lt_of_lt_of_le (by decide) hNN) rfl rfl kw_X5_raise_X5 32 (by decide) (List.mem_of_getElem? (i := 2) rfl) (v := .ref (B 25)) rfl dX5_raise_147 ?_
    refine lv_iload hx hb dX5_raise_150 (lv_at hl 6 rfl) ?_
    refine rr_iald C hN 25 (Nat.lt_of_lt_of_le (by decide) hNN) rfl (by decide) k (by omega) hxk dX5_raise_152 ?_
    refine lv_i2l hx hb dX5_raise_153 rfl ?_
    refine lv_topl (fun vs8 evs8 => ?_)
    refine lv_lmul hx hb dX5_raise_154 ?_
    refine lv_topl (fun vs9 evs9 => ?_)
    refine lv_ladd hx hb dX5_raise_155 ?_
    refine lv_topl (fun vs10 evs10 => ?_)
    refine lv_lstore (lv' := [(6, .long vs10), (0, .ref (B 0)), (1, .long x), (3, .int tv), (4, .int nv), (5, .int av), (8, .int y)]) hx hb dX5_raise_156 hl (by decide) rfl (fun ls hl => ?_)
    refine lv_aload_n hx hb dX5_raise_158 rfl (lv_at hl 1 rfl) ?_
    refine rr_get C hN 0 (Nat.lt_of_lt_of_le (by decide) hNN) rfl rfl kw_X5_raise_X5 31 (by decide) (List.mem_of_getElem? (i := 1) rfl) (v := .ref (B 24)) rfl dX5_raise_159 ?_
    refine lv_iload hx hb dX5_raise_162 (lv_at hl 5 rfl) ?_
    refine lv_iload hx hb dX5_raise_164 (lv_at hl 6 rfl) ?_
    refine lv_iadd hx hb dX5_raise_166 ?_
    refine lv_topi (fun vs11 evs11 => ?_)
    refine lv_lload hx hb dX5_raise_167 (lv_at hl 0 rfl) ?_
    refine lv_ldc2 (v := 65535) hx hb C.1.2.2.2.1 (C.1.2.2.2.2 _ (List.mem_of_getElem? (i := 3) rfl)) dX5_raise_169 ?_
    refine lv_land hx hb dX5_raise_172 ?_
    refine lv_topl (fun vs12 evs12 => ?_)
    refine lv_l2i hx hb dX5_raise_173 rfl ?_
    refine lv_topi (fun vs13 evs13 => ?_)
    refine rr_iast C hN 24 (Nat.lt_of_lt_of_le (by decide) hNN) (fun _ => rfl) (by decide) (a0 + k) (by omega) (by rw [evs11, hav, hxk]; exact nI_add a0 k) dX5_raise_174 (fun us14 eus14 H locs hN => ?_)
    refine lv_lload hx hb dX5_raise_175 (lv_at hl 0 rfl) ?_
    refine lv_bipush (v := 16) hx hb dX5_raise_177 (by decide) ?_
    refine lv_lshr hx hb dX5_raise_179 rfl ?_
    refine lv_topl (fun vs15 evs15 => ?_)
    refine lv_lstore (lv' := [(6, .long vs15), (0, .ref (B 0)), (1, .long x), (3, .int tv), (4, .int nv), (5, .int av), (8, .int y)]) hx hb dX5_raise_180 hl (by decide) rfl (fun ls hl => ?_)
    obtain ⟨vs16, evs16⟩ : ∃ y9 : Int32, y9 = y + 1 := ⟨_, rfl⟩
    refine lv_iinc (v := vs16) (lv' := [(8, .int vs16), (6, .long vs15), (0, .ref (B 0)), (1, .long x), (3, .int tv), (4, .int nv), (5, .int av)]) hx hb dX5_raise_182 hl (k := 6) rfl (by rw [evs16]; rfl) (by decide) rfl (fun ls hl => ?_)
    refine lv_goto (tgt := 111) hx hb dX5_raise_185 (by decide) ?_
    exact ih (k + 1) vs15 vs16 us14 (by omega) (by rw [evs16, hxk]; exact nI_1 k) (hu.trans (by subst_vars; simp only [mo_re, mo_c1]))  H locs ls hN (lv_sub hl [2, 3, 4, 5, 6, 1, 0] rfl)
set_option maxHeartbeats 4000000 in
set_option maxRecDepth 100000 in
theorem lp_X5_ra5 {p : Program} {l : Launch} {e : Env} {s : State} {m : MethodId} {args : Array Value} {below : List Frame} {meth : Method} {c : Code} {D : va_G} {ca : Nat → ClassId} {B : Nat → Nat} {N n : Nat} {X : va_W} (C : ww_C D ca yX5_raise.cls cX5_raise 9 wsX5_raise none (ww_A B N X s.heap.size) p s m args meth c) (hNN : 29 ≤ N) (x : Int64) (tv nv : Int32) {Q : State → Prop} {uf : ww_U}  (kk : ∀ (H : Heap) (locs : List Loc) (ls : Array Slot), ww_N D ca B N n uf X (ww_A B N X s.heap.size) s.heap H locs → lv_has ls 9 [(0, .ref (B 0)), (1, .long x), (3, .int tv), (4, .int nv)] → W p l e (headSpec wsX5_raise ({ frames := 0, cells := 0, slots := 0, locals := 0 } : Room)).room s m args below meth c H locs 0 0 Q (F0 m 194 ls [])) : ∀ (d k : Nat) (y : Int32) (u : ww_U), k + d = 3 → (y = nI k) → uf = mo_rf d k x u → ∀ (H : Heap) (locs : List Loc) (ls : Array Slot), ww_N D ca B N n u X (ww_A B N X s.heap.size) s.heap H locs → lv_has ls 9 [(0, .ref (B 0)), (1, .long x), (3, .int tv), (4, .int nv), (5, .int y)] → W p l e (headSpec wsX5_raise ({ frames := 0, cells := 0, slots := 0, locals := 0 } : Room)).room s m args below meth c H locs 0 0 Q (F0 m 99 ls []) := by
  have hx := C.1.1
  have hb := C.1.2.1
  intro d
  induction d with
  | zero =>
    intro k y u hkd hxk hu  H locs ls hN hl
    refine lv_iload hx hb dX5_raise_99 (lv_at hl 4 rfl) ?_
    refine lv_iconst (v := 3) hx hb dX5_raise_101 (by decide) ?_
    refine lv_icmp_ge (tgt := 194) hx hb dX5_raise_102 (by decide) (fun c_102 => ?_) (fun c_102 => absurd c_102 (fun h => h (by rw [hxk, show k = 3 by omega]; decide)))
    have hE : uf = u := hu
    rw [← hE] at hN
    exact kk H locs ls hN (lv_sub hl [0, 1, 2, 3] rfl)
  | succ d ih =>
    intro k y u hkd hxk hu  H locs ls hN hl
    refine lv_iload hx hb dX5_raise_99 (lv_at hl 4 rfl) ?_
    refine lv_iconst (v := 3) hx hb dX5_raise_101 (by decide) ?_
    refine lv_icmp_ge (tgt := 194) hx hb dX5_raise_102 (by decide) (fun c_102 => absurd c_102 (by rw [hxk]; exact (show ¬ nI 3 ≤ nI k from nI_ge (by omega) (by decide)))) (fun c_102 => ?_)
    refine lv_lconst (v := 0) hx hb dX5_raise_105 (by decide) ?_
    refine lv_lstore (lv' := [(6, .long 0), (0, .ref (B 0)), (1, .long x), (3, .int tv), (4, .int nv), (5, .int y)]) hx hb dX5_raise_106 hl (by decide) rfl (fun ls hl => ?_)
    refine lv_iconst (v := 0) hx hb dX5_raise_108 (by decide) ?_
    refine lv_istore (lv' := [(8, .int 0), (6, .long 0), (0, .ref (B 0)), (1, .long x), (3, .int tv), (4, .int nv), (5, .int y)]) hx hb dX5_raise_109 hl (by decide) rfl (fun ls hl => ?_)
    refine lp_X5_ra6 C hNN x tv nv y (a0 := k) (by omega) hxk (uf := mo_re (12 - k) 0 k x 0 u)  (fun H locs ls hN hl => ?_) (12 - k) 0 0 0 u (by omega) rfl rfl  _ _ _ hN (lv_sub hl [2, 3, 4, 5, 6, 1, 0] rfl)
    obtain ⟨us1, eus1⟩ : ∃ y9 : ww_U, y9 = mo_re (12 - k) 0 k x 0 u := ⟨_, rfl⟩
    rw [← eus1] at hN
    obtain ⟨vs2, evs2⟩ : ∃ y9 : Int32, y9 = y + 1 := ⟨_, rfl⟩
    refine lv_iinc (v := vs2) (lv' := [(5, .int vs2), (0, .ref (B 0)), (1, .long x), (3, .int tv), (4, .int nv)]) hx hb dX5_raise_188 hl (k := 4) rfl (by rw [evs2]; rfl) (by decide) rfl (fun ls hl => ?_)
    refine lv_goto (tgt := 99) hx hb dX5_raise_191 (by decide) ?_
    exact ih (k + 1) vs2 us1 (by omega) (by rw [evs2, hxk]; exact nI_1 k) (hu.trans (by subst_vars; simp only [mo_rf]))  H locs ls hN (lv_sub hl [1, 2, 3, 4, 0] rfl)
set_option maxHeartbeats 4000000 in
set_option maxRecDepth 100000 in
theorem lp_X5_ra4 {p : Program} {l : Launch} {e : Env} {s : State} {m : MethodId} {args : Array Value} {below : List Frame} {meth : Method} {c : Code} {D : va_G} {ca : Nat → ClassId} {B : Nat → Nat} {N n : Nat} {X : va_W} (C : ww_C D ca yX5_raise.cls cX5_raise 9 wsX5_raise none (ww_A B N X s.heap.size) p s m args meth c) (hNN : 29 ≤ N) (x : Int64) (tv nv : Int32) {Q : State → Prop} {uf : ww_U}  (kk : ∀ (H : Heap) (locs : List Loc) (ls : Array Slot), ww_N D ca B N n uf X (ww_A B N X s.heap.size) s.heap H locs → lv_has ls 9 [(0, .ref (B 0)), (1, .long x), (3, .int tv), (4, .int nv)] → W p l e (headSpec wsX5_raise ({ frames := 0, cells := 0, slots := 0, locals := 0 } : Room)).room s m args below meth c H locs 0 0 Q (F0 m 96 ls [])) : ∀ (d k : Nat) (y : Int32) (u : ww_U), k + d = 12 → (y = nI k) → uf = mo_rc d k u → ∀ (H : Heap) (locs : List Loc) (ls : Array Slot), ww_N D ca B N n u X (ww_A B N X s.heap.size) s.heap H locs → lv_has ls 9 [(0, .ref (B 0)), (1, .long x), (3, .int tv), (4, .int nv), (5, .int y)] → W p l e (headSpec wsX5_raise ({ frames := 0, cells := 0, slots := 0, locals := 0 } : Room)).room s m args below meth c H locs 0 0 Q (F0 m 75 ls []) := by
  have hx := C.1.1
  have hb := C.1.2.1
  intro d
  induction d with
  | zero =>
    intro k y u hkd hxk hu  H locs ls hN hl
    refine lv_iload hx hb dX5_raise_75 (lv_at hl 4 rfl) ?_
    refine lv_bipush (v := 12) hx hb dX5_raise_77 (by decide) ?_
    refine lv_icmp_ge (tgt := 96) hx hb dX5_raise_79 (by decide) (fun c_79 => ?_) (fun c_79 => absurd c_79 (fun h => h (by rw [hxk, show k = 12 by omega]; decide)))
    have hE : uf = u := hu
    rw [← hE] at hN
    exact kk H locs ls hN (lv_sub hl [0, 1, 2, 3] rfl)
  | succ d ih =>
    intro k y u hkd hxk hu  H locs ls hN hl
    refine lv_iload hx hb dX5_raise_75 (lv_at hl 4 rfl) ?_
    refine lv_bipush (v := 12) hx hb dX5_raise_77 (by decide) ?_
    refine lv_icmp_ge (tgt := 96) hx hb dX5_raise_79 (by decide) (fun c_79 => absurd c_79 (by rw [hxk]; exact (show ¬ nI 12 ≤ nI k from nI_ge (by omega) (by decide)))) (fun c_79 => ?_)
    refine lv_aload_n hx hb dX5_raise_82 rfl (lv_at hl 0 rfl) ?_
    refine rr_get C hN 0 (Nat.lt_of_lt_of_le (by decide) hNN) rfl rfl kw_X5_raise_X5 31 (by decide) (List.mem_of_getElem? (i := 1) rfl) (v := .ref (B 24)) rfl dX5_raise_83 ?_
    refine lv_iload hx hb dX5_raise_86 (lv_at hl 4 rfl) ?_
    refine lv_iconst (v := 0) hx hb dX5_raise_88 (by decide) ?_
    refine rr_iast C hN 24 (Nat.lt_of_lt_of_le (by decide) hNN) (fun _ => rfl) (by decide) k (by omega) hxk dX5_raise_89 (fun us1 eus1 H locs hN => ?_)
    obtain ⟨vs2, evs2⟩ : ∃ y9 : Int32, y9 = y + 1 := ⟨_, rfl⟩
    refine lv_iinc (v := vs2) (lv' := [(5, .int vs2), (0, .ref (B 0)), (1, .long x), (3, .int tv), (4, .int nv)]) hx hb dX5_raise_90 hl (k := 4) rfl (by rw [evs2]; rfl) (by decide) rfl (fun ls hl => ?_)
    refine lv_goto (tgt := 75) hx hb dX5_raise_93 (by decide) ?_
    exact ih (k + 1) vs2 us1 (by omega) (by rw [evs2, hxk]; exact nI_1 k) (hu.trans (by subst_vars; simp only [mo_rc]))  H locs ls hN (lv_sub hl [1, 2, 3, 4, 0] rfl)
set_option maxHeartbeats 4000000 in
set_option maxRecDepth 100000 in
theorem lp_X5_ra3 {p : Program} {l : Launch} {e : Env} {s : State} {m : MethodId} {args : Array Value} {below : List Frame} {meth : Method} {c : Code} {D : va_G} {ca : Nat → ClassId} {B : Nat → Nat} {N n : Nat} {X : va_W} (C : ww_C D ca yX5_raise.cls cX5_raise 9 wsX5_raise none (ww_A B N X s.heap.size) p s m args meth c) (hNN : 29 ≤ N) (x : Int64) (tv nv : Int32) {Q : State → Prop} {uf : ww_U}  (kk : ∀ (H : Heap) (locs : List Loc) (ls : Array Slot), ww_N D ca B N n uf X (ww_A B N X s.heap.size) s.heap H locs → lv_has ls 9 [(0, .ref (B 0)), (1, .long x), (3, .int tv), (4, .int nv)] → W p l e (headSpec wsX5_raise ({ frames := 0, cells := 0, slots := 0, locals := 0 } : Room)).room s m args below meth c H locs 0 0 Q (F0 m 72 ls [])) : ∀ (d k : Nat) (y : Int32) (u : ww_U), k + d = 12 → (y = nI k) → uf = mo_rb d k u → ∀ (H : Heap) (locs : List Loc) (ls : Array Slot), ww_N D ca B N n u X (ww_A B N X s.heap.size) s.heap H locs → lv_has ls 9 [(0, .ref (B 0)), (1, .long x), (3, .int tv), (4, .int nv), (5, .int y)] → W p l e (headSpec wsX5_raise ({ frames := 0, cells := 0, slots := 0, locals := 0 } : Room)).room s m args below meth c H locs 0 0 Q (F0 m 45 ls []) := by
  have hx := C.1.1
  have hb := C.1.2.1
  intro d
  induction d with
  | zero =>
    intro k y u hkd hxk hu  H locs ls hN hl
    refine lv_iload hx hb dX5_raise_45 (lv_at hl 4 rfl) ?_
    refine lv_bipush (v := 12) hx hb dX5_raise_47 (by decide) ?_
    refine lv_icmp_ge (tgt := 72) hx hb dX5_raise_49 (by decide) (fun c_49 => ?_) (fun c_49 => absurd c_49 (fun h => h (by rw [hxk, show k = 12 by omega]; decide)))
    have hE : uf = u := hu
    rw [← hE] at hN
    exact kk H locs ls hN (lv_sub hl [0, 1, 2, 3] rfl)
  | succ d ih =>
    intro k y u hkd hxk hu  H locs ls hN hl
    refine lv_iload hx hb dX5_raise_45 (lv_at hl 4 rfl) ?_
    refine lv_bipush (v := 12) hx hb dX5_raise_47 (by decide) ?_
    refine lv_icmp_ge (tgt := 72) hx hb dX5_raise_49 (by decide) (fun c_49 => absurd c_49 (by rw [hxk]; exact (show ¬ nI 12 ≤ nI k from nI_ge (by omega) (by decide)))) (fun c_49 => ?_)
    refine lv_aload_n hx hb dX5_raise_52 rfl (lv_at hl 0 rfl) ?_
    refine rr_get C hN 0 (Nat.lt_of_lt_of_le (by decide) hNN) rfl rfl kw_X5_raise_X5 32 (by decide) (List.mem_of_getElem? (i := 2) rfl) (v := .ref (B 25)) rfl dX5_raise_53 ?_
    refine lv_iload hx hb dX5_raise_56 (lv_at hl 4 rfl) ?_
    refine lv_aload_n hx hb dX5_raise_58 rfl (lv_at hl 0 rfl) ?_
    refine rr_get C hN 0 (Nat.lt_of_lt_of_le (by decide) hNN) rfl rfl kw_X5_raise_X5 31 (by decide) (List.mem_of_getElem? (i := 1) rfl) (v := .ref (B 24)) rfl dX5_raise_59 ?_
    refine lv_iload hx hb dX5_raise_62 (lv_at hl 4 rfl) ?_
    refine rr_iald C hN 24 (Nat.lt_of_lt_of_le (by decide) hNN) rfl (by decide) k (by omega) hxk dX5_raise_64 ?_
    refine rr_iast C hN 25 (Nat.lt_of_lt_of_le (by decide) hNN) (fun _ => rfl) (by decide) k (by omega) hxk dX5_raise_65 (fun us1 eus1 H locs hN => ?_)
    obtain ⟨vs2, evs2⟩ : ∃ y9 : Int32, y9 = y + 1 := ⟨_, rfl⟩
    refine lv_iinc (v := vs2) (lv' := [(5, .int vs2), (0, .ref (B 0)), (1, .long x), (3, .int tv), (4, .int nv)]) hx hb dX5_raise_66 hl (k := 4) rfl (by rw [evs2]; rfl) (by decide) rfl (fun ls hl => ?_)
    refine lv_goto (tgt := 45) hx hb dX5_raise_69 (by decide) ?_
    exact ih (k + 1) vs2 us1 (by omega) (by rw [evs2, hxk]; exact nI_1 k) (hu.trans (by subst_vars; simp only [mo_rb]))  H locs ls hN (lv_sub hl [1, 2, 3, 4, 0] rfl)
set_option maxHeartbeats 4000000 in
set_option maxRecDepth 100000 in
theorem lp_X5_ra2 {p : Program} {l : Launch} {e : Env} {s : State} {m : MethodId} {args : Array Value} {below : List Frame} {meth : Method} {c : Code} {D : va_G} {ca : Nat → ClassId} {B : Nat → Nat} {N n : Nat} {X : va_W} (C : ww_C D ca yX5_raise.cls cX5_raise 9 wsX5_raise none (ww_A B N X s.heap.size) p s m args meth c) (hNN : 29 ≤ N) (x : Int64) (tv : Int32) {t0 : Nat} (ht0 : t0 ≤ 3) (htv : tv = nI t0)  {r : Option Value} {u' : ww_U} : ∀ (d k : Nat) (y : Int32) (u : ww_U), k + d = t0 → (y = nI k) → r = none → u' = mo_rg d k x u → ∀ (H : Heap) (locs : List Loc) (ls : Array Slot), ww_N D ca B N n u X (ww_A B N X s.heap.size) s.heap H locs → lv_has ls 9 [(0, .ref (B 0)), (1, .long x), (3, .int tv), (4, .int y)] → W p l e (headSpec wsX5_raise ({ frames := 0, cells := 0, slots := 0, locals := 0 } : Room)).room s m args below meth c H locs 0 0 (MQ below (ww_Q D ca B N n X s.heap.size r u') args s 0 0 (ww_A B N X s.heap.size)) (F0 m 36 ls []) := by
  have hx := C.1.1
  have hb := C.1.2.1
  intro d
  induction d with
  | zero =>
    intro k y u hkd hxk hr hu H locs ls hN hl
    refine lv_iload hx hb dX5_raise_36 (lv_at hl 3 rfl) ?_
    refine lv_iload_n hx hb dX5_raise_38 rfl (lv_at hl 2 rfl) ?_
    refine lv_icmp_ge (tgt := 200) hx hb dX5_raise_39 (by decide) (fun c_39 => ?_) (fun c_39 => absurd c_39 (fun h => h (by rw [htv, hxk, show k = t0 by omega]; exact nI_le (Nat.le_refl _) (by omega))))
    exact rr_vret C hN dX5_raise_200 hr hu
  | succ d ih =>
    intro k y u hkd hxk hr hu H locs ls hN hl
    refine lv_iload hx hb dX5_raise_36 (lv_at hl 3 rfl) ?_
    refine lv_iload_n hx hb dX5_raise_38 rfl (lv_at hl 2 rfl) ?_
    refine lv_icmp_ge (tgt := 200) hx hb dX5_raise_39 (by decide) (fun c_39 => absurd c_39 (by rw [htv, hxk]; exact nI_ge (by omega) (by omega))) (fun c_39 => ?_)
    refine lv_iconst (v := 0) hx hb dX5_raise_42 (by decide) ?_
    refine lv_istore (lv' := [(5, .int 0), (0, .ref (B 0)), (1, .long x), (3, .int tv), (4, .int y)]) hx hb dX5_raise_43 hl (by decide) rfl (fun ls hl => ?_)
    refine lp_X5_ra3 C hNN x tv y (uf := mo_rb 12 0 u)  (fun H locs ls hN hl => ?_) 12 0 0 u (by omega) rfl rfl  _ _ _ hN (lv_sub hl [1, 2, 3, 4, 0] rfl)
    obtain ⟨us1, eus1⟩ : ∃ y9 : ww_U, y9 = mo_rb 12 0 u := ⟨_, rfl⟩
    rw [← eus1] at hN
    refine lv_iconst (v := 0) hx hb dX5_raise_72 (by decide) ?_
    refine lv_istore (lv' := [(5, .int 0), (0, .ref (B 0)), (1, .long x), (3, .int tv), (4, .int y)]) hx hb dX5_raise_73 hl (by decide) rfl (fun ls hl => ?_)
    refine lp_X5_ra4 C hNN x tv y (uf := mo_rc 12 0 us1)  (fun H locs ls hN hl => ?_) 12 0 0 us1 (by omega) rfl rfl  _ _ _ hN (lv_sub hl [1, 2, 3, 4, 0] rfl)
    obtain ⟨us2, eus2⟩ : ∃ y9 : ww_U, y9 = mo_rc 12 0 us1 := ⟨_, rfl⟩
    rw [← eus2] at hN
    refine lv_iconst (v := 0) hx hb dX5_raise_96 (by decide) ?_
    refine lv_istore (lv' := [(5, .int 0), (0, .ref (B 0)), (1, .long x), (3, .int tv), (4, .int y)]) hx hb dX5_raise_97 hl (by decide) rfl (fun ls hl => ?_)
    refine lp_X5_ra5 C hNN x tv y (uf := mo_rf 3 0 x us2)  (fun H locs ls hN hl => ?_) 3 0 0 us2 (by omega) rfl rfl  _ _ _ hN (lv_sub hl [1, 2, 3, 4, 0] rfl)
    obtain ⟨us3, eus3⟩ : ∃ y9 : ww_U, y9 = mo_rf 3 0 x us2 := ⟨_, rfl⟩
    rw [← eus3] at hN
    obtain ⟨vs4, evs4⟩ : ∃ y9 : Int32, y9 = y + 1 := ⟨_, rfl⟩
    refine lv_iinc (v := vs4) (lv' := [(4, .int vs4), (0, .ref (B 0)), (1, .long x), (3, .int tv)]) hx hb dX5_raise_194 hl (k := 3) rfl (by rw [evs4]; rfl) (by decide) rfl (fun ls hl => ?_)
    refine lv_goto (tgt := 36) hx hb dX5_raise_197 (by decide) ?_
    exact ih (k + 1) vs4 us3 (by omega) (by rw [evs4, hxk]; exact nI_1 k) hr (hu.trans (by subst_vars; simp only [mo_rg])) H locs ls hN (lv_sub hl [1, 2, 3, 0] rfl)
set_option maxHeartbeats 4000000 in
set_option maxRecDepth 100000 in
theorem lp_X5_ra1 {p : Program} {l : Launch} {e : Env} {s : State} {m : MethodId} {args : Array Value} {below : List Frame} {meth : Method} {c : Code} {D : va_G} {ca : Nat → ClassId} {B : Nat → Nat} {N n : Nat} {X : va_W} (C : ww_C D ca yX5_raise.cls cX5_raise 9 wsX5_raise none (ww_A B N X s.heap.size) p s m args meth c) (hNN : 29 ≤ N) (x : Int64) (tv : Int32) {t0 : Nat} (ht0 : t0 ≤ 3) (htv : tv = nI t0)  {r : Option Value} {u' : ww_U} : ∀ (d k : Nat) (y : Int32) (u : ww_U), k + d = 12 → (y = nI k) → r = none → u' = mo_rg t0 0 x (mo_ra d k u) → ∀ (H : Heap) (locs : List Loc) (ls : Array Slot), ww_N D ca B N n u X (ww_A B N X s.heap.size) s.heap H locs → lv_has ls 9 [(0, .ref (B 0)), (1, .long x), (3, .int tv), (4, .int y)] → W p l e (headSpec wsX5_raise ({ frames := 0, cells := 0, slots := 0, locals := 0 } : Room)).room s m args below meth c H locs 0 0 (MQ below (ww_Q D ca B N n X s.heap.size r u') args s 0 0 (ww_A B N X s.heap.size)) (F0 m 3 ls []) := by
  have hx := C.1.1
  have hb := C.1.2.1
  intro d
  induction d with
  | zero =>
    intro k y u hkd hxk hr hu H locs ls hN hl
    refine lv_iload hx hb dX5_raise_3 (lv_at hl 3 rfl) ?_
    refine lv_bipush (v := 12) hx hb dX5_raise_5 (by decide) ?_
    refine lv_icmp_ge (tgt := 33) hx hb dX5_raise_7 (by decide) (fun c_7 => ?_) (fun c_7 => absurd c_7 (fun h => h (by rw [hxk, show k = 12 by omega]; decide)))
    refine lv_iconst (v := 0) hx hb dX5_raise_33 (by decide) ?_
    refine lv_istore (lv' := [(4, .int 0), (0, .ref (B 0)), (1, .long x), (3, .int tv)]) hx hb dX5_raise_34 hl (by decide) rfl (fun ls hl => ?_)
    exact lp_X5_ra2 C hNN x tv ht0 htv t0 0 0 u (by omega) rfl hr (hu.trans (by simp only [mo_ra])) H locs ls hN (lv_sub hl [1, 2, 3, 0] rfl)
  | succ d ih =>
    intro k y u hkd hxk hr hu H locs ls hN hl
    refine lv_iload hx hb dX5_raise_3 (lv_at hl 3 rfl) ?_
    refine lv_bipush (v := 12) hx hb dX5_raise_5 (by decide) ?_
    refine lv_icmp_ge (tgt := 33) hx hb dX5_raise_7 (by decide) (fun c_7 => absurd c_7 (by rw [hxk]; exact (show ¬ nI 12 ≤ nI k from nI_ge (by omega) (by decide)))) (fun c_7 => ?_)
    refine lv_aload_n hx hb dX5_raise_10 rfl (lv_at hl 0 rfl) ?_
    refine rr_get C hN 0 (Nat.lt_of_lt_of_le (by decide) hNN) rfl rfl kw_X5_raise_X5 31 (by decide) (List.mem_of_getElem? (i := 1) rfl) (v := .ref (B 24)) rfl dX5_raise_11 ?_
    refine lv_iload hx hb dX5_raise_14 (lv_at hl 3 rfl) ?_
    refine lv_iload hx hb dX5_raise_16 (lv_at hl 3 rfl) ?_
    refine lv_if_ne (tgt := 25) hx hb dX5_raise_18 (by decide) (fun c_18 => ?_) (fun c_18 => ?_)
    · have hk0 : ¬ k = 0 := fun h => c_18 (by rw [hxk, h]; rfl)
      refine lv_iconst (v := 0) hx hb dX5_raise_25 (by decide) ?_
      refine rr_iast C hN 24 (Nat.lt_of_lt_of_le (by decide) hNN) (fun _ => rfl) (by decide) k (by omega) hxk dX5_raise_26 (fun us1 eus1 H locs hN => ?_)
      obtain ⟨vs2, evs2⟩ : ∃ y9 : Int32, y9 = y + 1 := ⟨_, rfl⟩
      refine lv_iinc (v := vs2) (lv' := [(4, .int vs2), (0, .ref (B 0)), (1, .long x), (3, .int tv)]) hx hb dX5_raise_27 hl (k := 3) rfl (by rw [evs2]; rfl) (by decide) rfl (fun ls hl => ?_)
      refine lv_goto (tgt := 3) hx hb dX5_raise_30 (by decide) ?_
      exact ih (k + 1) vs2 us1 (by omega) (by rw [evs2, hxk]; exact nI_1 k) hr (hu.trans (by rw [eus1]; simp only [mo_ra]; (first | rw [if_pos hk0] | rw [if_neg hk0]))) H locs ls hN (lv_sub hl [1, 2, 3, 0] rfl)
    · have hk0 : k = 0 := by rw [hxk] at c_18; exact (nI_eq (by omega) (by decide)).mp (c_18.trans nI_0.symm)
      refine lv_iconst (v := 1) hx hb dX5_raise_21 (by decide) ?_
      refine lv_goto (tgt := 26) hx hb dX5_raise_22 (by decide) ?_
      refine rr_iast C hN 24 (Nat.lt_of_lt_of_le (by decide) hNN) (fun _ => rfl) (by decide) k (by omega) hxk dX5_raise_26 (fun us3 eus3 H locs hN => ?_)
      obtain ⟨vs4, evs4⟩ : ∃ y9 : Int32, y9 = y + 1 := ⟨_, rfl⟩
      refine lv_iinc (v := vs4) (lv' := [(4, .int vs4), (0, .ref (B 0)), (1, .long x), (3, .int tv)]) hx hb dX5_raise_27 hl (k := 3) rfl (by rw [evs4]; rfl) (by decide) rfl (fun ls hl => ?_)
      refine lv_goto (tgt := 3) hx hb dX5_raise_30 (by decide) ?_
      exact ih (k + 1) vs4 us3 (by omega) (by rw [evs4, hxk]; exact nI_1 k) hr (hu.trans (by rw [eus3]; simp only [mo_ra]; (first | rw [if_pos hk0] | rw [if_neg hk0]))) H locs ls hN (lv_sub hl [1, 2, 3, 0] rfl)
set_option maxHeartbeats 4000000 in
set_option maxRecDepth 100000 in
theorem ct_X5_raise (l : Launch) {D : va_G} {ca : Nat → ClassId} {B : Nat → Nat} {N n : Nat} {X : va_W} {u : ww_U} (x : Int64) {tv : Int32} {t0 : Nat} (ht0 : t0 ≤ 3) (htv : tv = nI t0) (hNN : 29 ≤ N)  : ww_M l yX5_raise wsX5_raise ({ frames := 0, cells := 0, slots := 0, locals := 0 } : Room) D ca B N n X u [.ref (B 0), .long x, .int tv] none (mo_raise x t0 u) := by
  refine ww_met (cc := cX5_raise) (maxL := 9) (ret := none) (by decide) rfl (Nat.le_of_ble_eq_true rfl) ?_
  intro p e s m args below meth c C hN ls hl
  have hl : lv_has ls 9 [(0, .ref (B 0)), (1, .long x), (3, .int tv)] := hl
  have hx := C.1.1
  have hb := C.1.2.1
  refine lv_iconst (v := 0) hx hb dX5_raise_0 (by decide) ?_
  refine lv_istore (lv' := [(4, .int 0), (0, .ref (B 0)), (1, .long x), (3, .int tv)]) hx hb dX5_raise_1 hl (by decide) rfl (fun ls hl => ?_)
  exact lp_X5_ra1 C hNN x tv ht0 htv 12 0 0 u (by omega) rfl rfl rfl _ _ _ hN (lv_sub hl [1, 2, 3, 0] rfl)
