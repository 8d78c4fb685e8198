def mo_nl : Nat → Nat → Nat → Int32 → ww_U → Int32 → ww_U × Int32
  | 0, _, _, _, u, c => (u, c)
  | d + 1, k, p, a, u, c => if u 17 k = a then (if ww_up u 17 k (u 17 p) 17 k = ww_up u 17 k (u 17 p) 17 p then mo_nl d (k + 1) p a (ww_up u 17 k (u 17 p)) (c + 1) else mo_nl d (k + 1) p a (ww_up u 17 k (u 17 p)) c) else (if u 17 k = u 17 p then mo_nl d (k + 1) p a u (c + 1) else mo_nl d (k + 1) p a u c)
def mo_needs (P : Nat) (u : ww_U) (p q : Nat) : ww_U × Int32 := if nI p = nI q then (mo_z u, -2) else if mo_op (mo_z u) p = 0 then (mo_z u, -3) else if mo_op (mo_z u) q = 0 then (mo_z u, -3) else if u 18 (mo_rd u 17 p) = 0 then (if u 18 (mo_rd u 17 q) = 0 then mo_nl P 1 p (u 17 q) (mo_z u) 0 else (mo_z u, -3)) else (mo_z u, -3)
def mo_a1 (u : ww_U) (s w is : Int32) (k : Nat) : Int32 := if is = 0 then 0 else if u 17 k = s then (if u 14 k = w then (if w = 2 then (if mo_th u (mo_rd u 11 k) = 0 then 0 else 1) else 1) else 0) else 1
def mo_all : Nat → Nat → Int32 → Int32 → ww_U → Int32 → Int32
  | 0, _, _, _, _, is => is
  | d + 1, k, s, w, u, is => mo_all d (k + 1) s w u (mo_a1 u s w is k)
def mo_chl : Nat → Nat → ww_U → ww_U
  | 0, _, u => u
  | d + 1, k, u => if u 17 k = u 0 28 then mo_chl d (k + 1) (ww_up u 4 (mo_rd u 11 k) 0) else mo_chl d (k + 1) u
def mo_sw (u : ww_U) (c : Nat) : ww_U := ww_up (ww_up u 2 c (1 - u 2 c)) 3 c (ww_up u 2 c (1 - u 2 c) 9 (2 * c + (1 - mo_rd u 2 c)))
def mo_change (P : Nat) (u : ww_U) (c p : Nat) : ww_U := if mo_all P 1 (u 17 p) 3 (ww_up (mo_sw u c) 14 p 3) 1 = 0 then ww_up (mo_sw u c) 14 p 3 else mo_chl P 1 (ww_up (ww_up (mo_sw u c) 14 p 3) 0 28 (u 17 p))
def mo_cl (u : ww_U) (c : Nat) : ww_U := if mo_st (ww_up u 5 c 1) c = 1 then (if u 15 (mo_rd u 4 c) ≤ 0 then ww_up u 5 c 1 else ww_up (ww_up u 5 c 1) 15 (mo_rd u 4 c) (u 15 (mo_rd u 4 c) - 1)) else ww_up u 5 c 1
def mo_cut : Nat → Nat → ww_U → Int32 → ww_U × Int32
  | 0, _, u, a => (u, a)
  | d + 1, k, u, a => mo_cut d (k + 1) (mo_cl u k) (if u 5 k = 0 then a + 1 else a)
def mo_j1 (u : ww_U) (is : Int32) (k : Nat) : Int32 := if is = 0 then 0 else if u 17 k = u 0 28 then (if u 2 (mo_rd u 11 k) = u 16 k then 1 else 0) else 1
def mo_jl : Nat → Nat → ww_U → Int32 → Int32
  | 0, _, _, is => is
  | d + 1, k, u, is => mo_jl d (k + 1) u (mo_j1 u is k)
def mo_joint (P : Nat) (u : ww_U) : Int32 := if mo_jl P 1 (mo_z u) (if u 0 28 ≤ 0 then 0 else 1) = 0 then 0 else 1
def mo_r1 (u : ww_U) (is : Int32) (k : Nat) : Int32 := if is = 0 then 0 else if u 17 k = u 0 28 then (if mo_th u (mo_rd u 11 k) = 0 then 0 else if 0 < u 4 (mo_rd u 11 k) then 0 else 1) else 1
def mo_rm : Nat → Nat → ww_U → Int32 → Int32
  | 0, _, _, is => is
  | d + 1, k, u, is => mo_rm d (k + 1) u (mo_r1 u is k)
def mo_rl : Nat → Nat → ww_U → ww_U
  | 0, _, u => u
  | d + 1, k, u => if u 17 k = u 0 28 then mo_rl d (k + 1) (mo_sw u (mo_rd u 11 k)) else mo_rl d (k + 1) u
def mo_rollback (P : Nat) (u : ww_U) : ww_U × Int32 := if mo_rm P 1 (mo_z u) (if u 0 28 ≤ 0 then 0 else 1) = 0 then (mo_z u, 0) else (ww_up (mo_rl P 1 (mo_z u)) 0 28 0, 1)
def mo_okP (P : Nat) (u : ww_U) : Prop := P ≤ 60 ∧ u 0 12 = nI P
def mo_of (u : ww_U) : Prop := ∀ p, p ≤ 60 → okn (u 11 p) 8
def mo_opn (u : ww_U) : Prop := ∀ c, c ≤ 8 → okn (u 4 c) 60
def mo_se (u : ww_U) : Prop := ∀ p, p ≤ 60 → okn (u 17 p) 60
def mo_ru (u : ww_U) : Prop := ∀ c, c ≤ 8 → okn (u 2 c) 1
theorem okn_up {u : ww_U} {k a j b c d : Nat} {x : Int32} (h : ∀ c, c ≤ d → okn (u k c) b) (hx : okn x b) (hc : c ≤ d) : okn (ww_up u a j x k c) b := by
  by_cases hk : k = a
  · subst hk
    rw [ww_up_at]
    split
    · exact hx
    · exact h c hc
  · rw [ww_up_ne hk]; exact h c hc
theorem okn_0 {b : Nat} : okn 0 b := ⟨rfl, Nat.zero_le _⟩
theorem okn_flip {x : Int32} (h : okn x 1) : okn (1 - x) 1 ∧ (1 : Int32) - x = nI (1 - x.toNatClampNeg) := by
  obtain ⟨h1, h2⟩ := h
  generalize x.toNatClampNeg = b at h1 h2
  rcases (show b = 0 ∨ b = 1 by omega) with rfl | rfl
  · subst h1; exact ⟨okn_nI (a := 1) (by decide) (by decide), rfl⟩
  · subst h1; exact ⟨okn_nI (a := 0) (by decide) (by decide), rfl⟩
set_option maxRecDepth 20000 in
theorem kw_X5_needs_X5 : ww_K wsX5_needs RX5 TX5 36 tyX5 := ⟨by decide +kernel, tyX5_ok, nmX5⟩
set_option maxHeartbeats 4000000 in
set_option maxRecDepth 100000 in
theorem lp_X5_needs {p : Program} {l : Launch} {e : Env} {s : State} {m : MethodId} {args : Array Value} {below : List Frame} {meth : Method} {c : Code} {D : va_G} {ca : Nat → ClassId} {B : Nat → Nat} {N n : Nat} {X : va_W} (C : ww_C D ca yX5_needs.cls cX5_needs 6 wsX5_needs (some .int) (ww_A B N X s.heap.size) p s m args meth c) (hNN : 29 ≤ N) {P : Nat} (hP60 : P ≤ 60) (y z a : Int32) {p0 : Nat} (hp60 : p0 ≤ 60) (hyp : y = nI p0)  {r : Option Value} {u' : ww_U} : ∀ (d k : Nat) (q : Int32) (x : Int32) (u : ww_U), k + d = P + 1 → (u 0 12 = nI P) → (x = nI k) → (1 ≤ k) → r = some (.int (mo_nl d k p0 a u q).2) → u' = (mo_nl d k p0 a u q).1 → ∀ (H : Heap) (locs : List Loc) (ls : Array Slot), ww_N D ca B N n u X (ww_A B N X s.heap.size) s.heap H locs → lv_has ls 6 [(0, .ref (B 0)), (1, .int y), (2, .int z), (3, .int a), (4, .int q), (5, .int x)] → W p l e (headSpec wsX5_needs ({ frames := 1, cells := 0, slots := 0, locals := 21 } : Room)).room s m args below meth c H locs 0 0 (MQ below (ww_Q D ca B N n X s.heap.size r u') args s 0 0 (ww_A B N X s.heap.size)) (F0 m 101 ls []) := by
  have hx := C.1.1
  have hb := C.1.2.1
  intro d
  induction d with
  | zero =>
    intro k q x u hkd hpk hxk hk1 hr hu H locs ls hN hl
    refine lv_iload hx hb dX5_needs_101 (lv_at hl 5 rfl) ?_
    refine lv_aload_n hx hb dX5_needs_103 rfl (lv_at hl 0 rfl) ?_
    refine rr_get C hN 0 (Nat.lt_of_lt_of_le (by decide) hNN) rfl rfl kw_X5_needs_X5 12 (by decide) (List.mem_of_getElem? (i := 2) rfl) (v := .int (u 0 12)) rfl dX5_needs_104 ?_
    refine lv_icmp_gt (tgt := 159) hx hb dX5_needs_107 (by decide) (fun c_107 => ?_) (fun c_107 => absurd c_107 (fun h => h (by rw [hpk, hxk, show k = P + 1 by omega]; exact nI_lt (by omega) (by omega))))
    refine lv_iload hx hb dX5_needs_159 (lv_at hl 4 rfl) ?_
    exact rr_iret C hN dX5_needs_161 hr hu
  | succ d ih =>
    intro k q x u hkd hpk hxk hk1 hr hu H locs ls hN hl
    refine lv_iload hx hb dX5_needs_101 (lv_at hl 5 rfl) ?_
    refine lv_aload_n hx hb dX5_needs_103 rfl (lv_at hl 0 rfl) ?_
    refine rr_get C hN 0 (Nat.lt_of_lt_of_le (by decide) hNN) rfl rfl kw_X5_needs_X5 12 (by decide) (List.mem_of_getElem? (i := 2) rfl) (v := .int (u 0 12)) rfl dX5_needs_104 ?_
    refine lv_icmp_gt (tgt := 159) hx hb dX5_needs_107 (by decide) (fun c_107 => absurd c_107 (by rw [hpk, hxk]; exact nI_nlt (by omega) (by omega))) (fun c_107 => ?_)
    refine lv_aload_n hx hb dX5_needs_110 rfl (lv_at hl 0 rfl) ?_
    refine rr_get C hN 0 (Nat.lt_of_lt_of_le (by decide) hNN) rfl rfl kw_X5_needs_X5 19 (by decide) (List.mem_of_getElem? (i := 4) rfl) (v := .ref (B 17)) rfl dX5_needs_111 ?_
    refine lv_iload hx hb dX5_needs_114 (lv_at hl 5 rfl) ?_
    refine rr_iald C hN 17 (Nat.lt_of_lt_of_le (by decide) hNN) rfl (by decide) k (by omega) hxk dX5_needs_116 ?_
    refine lv_iload_n hx hb dX5_needs_117 rfl (lv_at hl 3 rfl) ?_
    refine lv_icmp_ne (tgt := 134) hx hb dX5_needs_118 (by decide) (fun c_118 => ?_) (fun c_118 => ?_)
    · refine lv_aload_n hx hb dX5_needs_134 rfl (lv_at hl 0 rfl) ?_
      refine rr_get C hN 0 (Nat.lt_of_lt_of_le (by decide) hNN) rfl rfl kw_X5_needs_X5 19 (by decide) (List.mem_of_getElem? (i := 4) rfl) (v := .ref (B 17)) rfl dX5_needs_135 ?_
      refine lv_iload hx hb dX5_needs_138 (lv_at hl 5 rfl) ?_
      refine rr_iald C hN 17 (Nat.lt_of_lt_of_le (by decide) hNN) rfl (by decide) k (by omega) hxk dX5_needs_140 ?_
      refine lv_aload_n hx hb dX5_needs_141 rfl (lv_at hl 0 rfl) ?_
      refine rr_get C hN 0 (Nat.lt_of_lt_of_le (by decide) hNN) rfl rfl kw_X5_needs_X5 19 (by decide) (List.mem_of_getElem? (i := 4) rfl) (v := .ref (B 17)) rfl dX5_needs_142 ?_
      refine lv_iload_n hx hb dX5_needs_145 rfl (lv_at hl 1 rfl) ?_
      refine rr_iald C hN 17 (Nat.lt_of_lt_of_le (by decide) hNN) rfl (by decide) p0 (by omega) hyp dX5_needs_146 ?_
      refine lv_icmp_ne (tgt := 153) hx hb dX5_needs_147 (by decide) (fun c_147 => ?_) (fun c_147 => ?_)
      · obtain ⟨vs1, evs1⟩ : ∃ y9 : Int32, y9 = x + 1 := ⟨_, rfl⟩
        refine lv_iinc (v := vs1) (lv' := [(5, .int vs1), (0, .ref (B 0)), (1, .int y), (2, .int z), (3, .int a), (4, .int q)]) hx hb dX5_needs_153 hl (k := 5) rfl (by rw [evs1]; rfl) (by decide) rfl (fun ls hl => ?_)
        refine lv_goto (tgt := 101) hx hb dX5_needs_156 (by decide) ?_
        exact ih (k + 1) q vs1 u (by omega) hpk (by rw [evs1, hxk]; exact nI_1 k) (by omega) (hr.trans (by subst_vars; first | rfl | (simp only [mo_nl]; done) | (simp only [mo_nl]; (repeat' split) <;> first | rfl | contradiction | simp_all))) (hu.trans (by subst_vars; first | rfl | (simp only [mo_nl]; done) | (simp only [mo_nl]; (repeat' split) <;> first | rfl | contradiction | simp_all))) H locs ls hN (lv_sub hl [1, 2, 3, 4, 5, 0] rfl)
      · obtain ⟨vs2, evs2⟩ : ∃ y9 : Int32, y9 = q + 1 := ⟨_, rfl⟩
        refine lv_iinc (v := vs2) (lv' := [(4, .int vs2), (0, .ref (B 0)), (1, .int y), (2, .int z), (3, .int a), (5, .int x)]) hx hb dX5_needs_150 hl (k := 4) rfl (by rw [evs2]; rfl) (by decide) rfl (fun ls hl => ?_)
        obtain ⟨vs3, evs3⟩ : ∃ y9 : Int32, y9 = x + 1 := ⟨_, rfl⟩
        refine lv_iinc (v := vs3) (lv' := [(5, .int vs3), (4, .int vs2), (0, .ref (B 0)), (1, .int y), (2, .int z), (3, .int a)]) hx hb dX5_needs_153 hl (k := 5) rfl (by rw [evs3]; rfl) (by decide) rfl (fun ls hl => ?_)
        refine lv_goto (tgt := 101) hx hb dX5_needs_156 (by decide) ?_
        exact ih (k + 1) vs2 vs3 u (by omega) hpk (by rw [evs3, hxk]; exact nI_1 k) (by omega) (hr.trans (by subst_vars; first | rfl | (simp only [mo_nl]; done) | (simp only [mo_nl]; (repeat' split) <;> first | rfl | contradiction | simp_all))) (hu.trans (by subst_vars; first | rfl | (simp only [mo_nl]; done) | (simp only [mo_nl]; (repeat' split) <;> first | rfl | contradiction | simp_all))) H locs ls hN (lv_sub hl [2, 3, 4, 5, 1, 0] rfl)
    · refine lv_aload_n hx hb dX5_needs_121 rfl (lv_at hl 0 rfl) ?_
      refine rr_get C hN 0 (Nat.lt_of_lt_of_le (by decide) hNN) rfl rfl kw_X5_needs_X5 19 (by decide) (List.mem_of_getElem? (i := 4) rfl) (v := .ref (B 17)) rfl dX5_needs_122 ?_
      refine lv_iload hx hb dX5_needs_125 (lv_at hl 5 rfl) ?_
      refine lv_aload_n hx hb dX5_needs_127 rfl (lv_at hl 0 rfl) ?_
      refine rr_get C hN 0 (Nat.lt_of_lt_of_le (by decide) hNN) rfl rfl kw_X5_needs_X5 19 (by decide) (List.mem_of_getElem? (i := 4) rfl) (v := .ref (B 17)) rfl dX5_needs_128 ?_
      refine lv_iload_n hx hb dX5_needs_131 rfl (lv_at hl 1 rfl) ?_
      refine rr_iald C hN 17 (Nat.lt_of_lt_of_le (by decide) hNN) rfl (by decide) p0 (by omega) hyp dX5_needs_132 ?_
      refine rr_iast C hN 17 (Nat.lt_of_lt_of_le (by decide) hNN) (fun _ => rfl) (by decide) k (by omega) hxk dX5_needs_133 (fun us4 eus4 H locs hN => ?_)
      refine lv_aload_n hx hb dX5_needs_134 rfl (lv_at hl 0 rfl) ?_
      refine rr_get C hN 0 (Nat.lt_of_lt_of_le (by decide) hNN) rfl rfl kw_X5_needs_X5 19 (by decide) (List.mem_of_getElem? (i := 4) rfl) (v := .ref (B 17)) rfl dX5_needs_135 ?_
      refine lv_iload hx hb dX5_needs_138 (lv_at hl 5 rfl) ?_
      refine rr_iald C hN 17 (Nat.lt_of_lt_of_le (by decide) hNN) rfl (by decide) k (by omega) hxk dX5_needs_140 ?_
      refine lv_aload_n hx hb dX5_needs_141 rfl (lv_at hl 0 rfl) ?_
      refine rr_get C hN 0 (Nat.lt_of_lt_of_le (by decide) hNN) rfl rfl kw_X5_needs_X5 19 (by decide) (List.mem_of_getElem? (i := 4) rfl) (v := .ref (B 17)) rfl dX5_needs_142 ?_
      refine lv_iload_n hx hb dX5_needs_145 rfl (lv_at hl 1 rfl) ?_
      refine rr_iald C hN 17 (Nat.lt_of_lt_of_le (by decide) hNN) rfl (by decide) p0 (by omega) hyp dX5_needs_146 ?_
      refine lv_icmp_ne (tgt := 153) hx hb dX5_needs_147 (by decide) (fun c_147 => ?_) (fun c_147 => ?_)
      · obtain ⟨vs5, evs5⟩ : ∃ y9 : Int32, y9 = x + 1 := ⟨_, rfl⟩
        refine lv_iinc (v := vs5) (lv' := [(5, .int vs5), (0, .ref (B 0)), (1, .int y), (2, .int z), (3, .int a), (4, .int q)]) hx hb dX5_needs_153 hl (k := 5) rfl (by rw [evs5]; rfl) (by decide) rfl (fun ls hl => ?_)
        refine lv_goto (tgt := 101) hx hb dX5_needs_156 (by decide) ?_
        exact ih (k + 1) q vs5 us4 (by omega) (by rw [eus4, ww_up_ne (by decide)]; exact hpk) (by rw [evs5, hxk]; exact nI_1 k) (by omega) (hr.trans (by subst_vars; first | rfl | (simp only [mo_nl]; done) | (simp only [mo_nl]; (repeat' split) <;> first | rfl | contradiction | simp_all))) (hu.trans (by subst_vars; first | rfl | (simp only [mo_nl]; done) | (simp only [mo_nl]; (repeat' split) <;> first | rfl | contradiction | simp_all))) H locs ls hN (lv_sub hl [1, 2, 3, 4, 5, 0] rfl)
      · obtain ⟨vs6, evs6⟩ : ∃ y9 : Int32, y9 = q + 1 := ⟨_, rfl⟩
        refine lv_iinc (v := vs6) (lv' := [(4, .int vs6), (0, .ref (B 0)), (1, .int y), (2, .int z), (3, .int a), (5, .int x)]) hx hb dX5_needs_150 hl (k := 4) rfl (by rw [evs6]; rfl) (by decide) rfl (fun ls hl => ?_)
        obtain ⟨vs7, evs7⟩ : ∃ y9 : Int32, y9 = x + 1 := ⟨_, rfl⟩
        refine lv_iinc (v := vs7) (lv' := [(5, .int vs7), (4, .int vs6), (0, .ref (B 0)), (1, .int y), (2, .int z), (3, .int a)]) hx hb dX5_needs_153 hl (k := 5) rfl (by rw [evs7]; rfl) (by decide) rfl (fun ls hl => ?_)
        refine lv_goto (tgt := 101) hx hb dX5_needs_156 (by decide) ?_
        exact ih (k + 1) vs6 vs7 us4 (by omega) (by rw [eus4, ww_up_ne (by decide)]; exact hpk) (by rw [evs7, hxk]; exact nI_1 k) (by omega) (hr.trans (by subst_vars; first | rfl | (simp only [mo_nl]; done) | (simp only [mo_nl]; (repeat' split) <;> first | rfl | contradiction | simp_all))) (hu.trans (by subst_vars; first | rfl | (simp only [mo_nl]; done) | (simp only [mo_nl]; (repeat' split) <;> first | rfl | contradiction | simp_all))) H locs ls hN (lv_sub hl [2, 3, 4, 5, 1, 0] rfl)
set_option maxHeartbeats 4000000 in
set_option maxRecDepth 100000 in
theorem ct_X5_needs0 (l : Launch) {D : va_G} {ca : Nat → ClassId} {B : Nat → Nat} {N n : Nat} {X : va_W} {u : ww_U} {y z : Int32} (h : y < 1 ∨ u 0 12 < y ∨ z < 1 ∨ u 0 12 < z) (hNN : 29 ≤ N)  : ww_M l yX5_needs wsX5_needs ({ frames := 1, cells := 0, slots := 0, locals := 21 } : Room) D ca B N n X u [.ref (B 0), .int y, .int z] (some (.int (-1))) (mo_z u) := by
  refine ww_met (cc := cX5_needs) (maxL := 6) (ret := (some .int)) (by decide) rfl (Nat.le_of_ble_eq_true rfl) ?_
  intro p e s m args below meth c C hN ls hl
  have hl : lv_has ls 6 [(0, .ref (B 0)), (1, .int y), (2, .int z)] := hl
  have hx := C.1.1
  have hb := C.1.2.1
  refine lv_aload_n hx hb dX5_needs_0 rfl (lv_at hl 0 rfl) ?_
  refine lv_iconst (v := 0) hx hb dX5_needs_1 (by decide) ?_
  refine rr_put C hN 0 (Nat.lt_of_lt_of_le (by decide) hNN) rfl rfl kw_X5_needs_X5 0 (by decide) (List.mem_of_getElem? (i := 1) rfl) rfl (x := 0) rfl rfl (Nat.le_of_ble_eq_true rfl) ((Eq.refl _).trans rfl) dX5_needs_2 (fun u1 eu1 H locs hN => ?_)
  refine lv_iload_n hx hb dX5_needs_5 rfl (lv_at hl 1 rfl) ?_
  refine lv_iconst (v := 1) hx hb dX5_needs_6 (by decide) ?_
  refine lv_icmp_lt (tgt := 31) hx hb dX5_needs_7 (by decide) (fun c_7 => ?_) (fun c_7 => ?_)
  · refine lv_iconst (v := (-1)) hx hb dX5_needs_31 (by decide) ?_
    exact rr_iret C hN dX5_needs_32 rfl (by subst_vars; rfl)
  · refine lv_iload_n hx hb dX5_needs_10 rfl (lv_at hl 1 rfl) ?_
    have hpz : u1 0 12 = u 0 12 := by rw [eu1, ww_up_nj (by decide)]
    refine lv_aload_n hx hb dX5_needs_11 rfl (lv_at hl 0 rfl) ?_
    refine rr_get C hN 0 (Nat.lt_of_lt_of_le (by decide) hNN) rfl rfl kw_X5_needs_X5 12 (by decide) (List.mem_of_getElem? (i := 2) rfl) (v := .int (u1 0 12)) rfl dX5_needs_12 ?_
    refine lv_icmp_gt (tgt := 31) hx hb dX5_needs_15 (by decide) (fun c_15 => ?_) (fun c_15 => ?_)
    · refine lv_iconst (v := (-1)) hx hb dX5_needs_31 (by decide) ?_
      exact rr_iret C hN dX5_needs_32 rfl (by subst_vars; rfl)
    · refine lv_iload_n hx hb dX5_needs_18 rfl (lv_at hl 2 rfl) ?_
      refine lv_iconst (v := 1) hx hb dX5_needs_19 (by decide) ?_
      refine lv_icmp_lt (tgt := 31) hx hb dX5_needs_20 (by decide) (fun c_20 => ?_) (fun c_20 => ?_)
      · refine lv_iconst (v := (-1)) hx hb dX5_needs_31 (by decide) ?_
        exact rr_iret C hN dX5_needs_32 rfl (by subst_vars; rfl)
      · refine lv_iload_n hx hb dX5_needs_23 rfl (lv_at hl 2 rfl) ?_
        refine lv_aload_n hx hb dX5_needs_24 rfl (lv_at hl 0 rfl) ?_
        refine rr_get C hN 0 (Nat.lt_of_lt_of_le (by decide) hNN) rfl rfl kw_X5_needs_X5 12 (by decide) (List.mem_of_getElem? (i := 2) rfl) (v := .int (u1 0 12)) rfl dX5_needs_25 ?_
        refine lv_icmp_le (tgt := 33) hx hb dX5_needs_28 (by decide) (fun c_28 => absurd c_28 (by rw [hpz]; rw [hpz] at c_15; rcases h with h | h | h | h; exact absurd h c_7; exact absurd h c_15; exact absurd h c_20; exact Int32.not_le.mpr h)) (fun c_28 => ?_)
        refine lv_iconst (v := (-1)) hx hb dX5_needs_31 (by decide) ?_
        exact rr_iret C hN dX5_needs_32 rfl (by subst_vars; rfl)
set_option maxHeartbeats 4000000 in
set_option maxRecDepth 100000 in
theorem ct_X5_needs (l : Launch) {D : va_G} {ca : Nat → ClassId} {B : Nat → Nat} {N n : Nat} {X : va_W} {u : ww_U} {P : Nat} (hP60 : P ≤ 60) (hpk : u 0 12 = nI P) {y z : Int32} {p0 q0 : Nat} (hp1 : 1 ≤ p0) (hpP : p0 ≤ P) (hyp : y = nI p0) (hq1 : 1 ≤ q0) (hqP : q0 ≤ P) (hzp : z = nI q0) (hof : mo_of u) (hse : mo_se u) (hNN : 29 ≤ N)  : ww_M l yX5_needs wsX5_needs ({ frames := 1, cells := 0, slots := 0, locals := 21 } : Room) D ca B N n X u [.ref (B 0), .int y, .int z] (some (.int (mo_needs P u p0 q0).2)) (mo_needs P u p0 q0).1 := by
  refine ww_met (cc := cX5_needs) (maxL := 6) (ret := (some .int)) (by decide) rfl (Nat.le_of_ble_eq_true rfl) ?_
  intro p e s m args below meth c C hN ls hl
  have hl : lv_has ls 6 [(0, .ref (B 0)), (1, .int y), (2, .int z)] := hl
  have hx := C.1.1
  have hb := C.1.2.1
  refine lv_aload_n hx hb dX5_needs_0 rfl (lv_at hl 0 rfl) ?_
  refine lv_iconst (v := 0) hx hb dX5_needs_1 (by decide) ?_
  refine rr_put C hN 0 (Nat.lt_of_lt_of_le (by decide) hNN) rfl rfl kw_X5_needs_X5 0 (by decide) (List.mem_of_getElem? (i := 1) rfl) rfl (x := 0) rfl rfl (Nat.le_of_ble_eq_true rfl) ((Eq.refl _).trans rfl) dX5_needs_2 (fun u1 eu1 H locs hN => ?_)
  have hpz : u1 0 12 = nI P := by rw [eu1, ww_up_nj (by decide)]; exact hpk
  refine lv_iload_n hx hb dX5_needs_5 rfl (lv_at hl 1 rfl) ?_
  refine lv_iconst (v := 1) hx hb dX5_needs_6 (by decide) ?_
  refine lv_icmp_lt (tgt := 31) hx hb dX5_needs_7 (by decide) (fun c_7 => absurd c_7 (by rw [hyp]; exact (show ¬ nI p0 < nI 1 from nI_nlt (by omega) (by omega)))) (fun c_7 => ?_)
  refine lv_iload_n hx hb dX5_needs_10 rfl (lv_at hl 1 rfl) ?_
  refine lv_aload_n hx hb dX5_needs_11 rfl (lv_at hl 0 rfl) ?_
  refine rr_get C hN 0 (Nat.lt_of_lt_of_le (by decide) hNN) rfl rfl kw_X5_needs_X5 12 (by decide) (List.mem_of_getElem? (i := 2) rfl) (v := .int (u1 0 12)) rfl dX5_needs_12 ?_
  refine lv_icmp_gt (tgt := 31) hx hb dX5_needs_15 (by decide) (fun c_15 => absurd c_15 (by rw [hpz, hyp]; exact nI_nlt (by omega) (by omega))) (fun c_15 => ?_)
  refine lv_iload_n hx hb dX5_needs_18 rfl (lv_at hl 2 rfl) ?_
  refine lv_iconst (v := 1) hx hb dX5_needs_19 (by decide) ?_
  refine lv_icmp_lt (tgt := 31) hx hb dX5_needs_20 (by decide) (fun c_20 => absurd c_20 (by rw [hzp]; exact (show ¬ nI q0 < nI 1 from nI_nlt (by omega) (by omega)))) (fun c_20 => ?_)
  refine lv_iload_n hx hb dX5_needs_23 rfl (lv_at hl 2 rfl) ?_
  refine lv_aload_n hx hb dX5_needs_24 rfl (lv_at hl 0 rfl) ?_
  refine rr_get C hN 0 (Nat.lt_of_lt_of_le (by decide) hNN) rfl rfl kw_X5_needs_X5 12 (by decide) (List.mem_of_getElem? (i := 2) rfl) (v := .int (u1 0 12)) rfl dX5_needs_25 ?_
  refine lv_icmp_le (tgt := 33) hx hb dX5_needs_28 (by decide) (fun c_28 => ?_) (fun c_28 => absurd c_28 (fun h => h (by rw [hpz, hzp]; exact nI_le (by omega) (by omega))))
  refine lv_iload_n hx hb dX5_needs_33 rfl (lv_at hl 1 rfl) ?_
  refine lv_iload_n hx hb dX5_needs_34 rfl (lv_at hl 2 rfl) ?_
  refine lv_icmp_ne (tgt := 41) hx hb dX5_needs_35 (by decide) (fun c_35 => ?_) (fun c_35 => ?_)
  · refine lv_aload_n hx hb dX5_needs_41 rfl (lv_at hl 0 rfl) ?_
    refine lv_iload_n hx hb dX5_needs_42 rfl (lv_at hl 1 rfl) ?_
    refine rr_callV (As := [.int y]) C hN 0 (Nat.lt_of_lt_of_le (by decide) hNN) rfl rfl rfl (ct_X5_isOpen l (q := p0) (by omega) hyp hNN (by rw [eu1]; exact hof p0 (by omega))) gX5_needs_X5_isOpen rfl rfl rfl 1 (by decide +kernel) ⟨Nat.le_of_ble_eq_true rfl, Nat.le_of_ble_eq_true rfl⟩ rfl hl.1 rfl (Nat.le_of_ble_eq_true rfl) ⟨Nat.zero_le _, Nat.zero_le _⟩ dX5_needs_43 (fun H locs hN => ?_)
    refine lv_topi (fun v2 ev2 => ?_)
    refine lv_if_eq (tgt := 85) hx hb dX5_needs_46 (by decide) (fun c_46 => ?_) (fun c_46 => ?_)
    · refine lv_bipush (v := (-3)) hx hb dX5_needs_85 (by decide) ?_
      exact rr_iret C hN dX5_needs_87 (by unfold mo_needs; rw [if_neg (by rw [← hyp, ← hzp]; exact c_35)]; rw [if_pos (by have h9 := c_46; rw [ev2, eu1] at h9; exact h9)]; try (rw [eu1]; rfl)) (by unfold mo_needs; rw [if_neg (by rw [← hyp, ← hzp]; exact c_35)]; rw [if_pos (by have h9 := c_46; rw [ev2, eu1] at h9; exact h9)]; try (rw [eu1]; rfl))
    · refine lv_aload_n hx hb dX5_needs_49 rfl (lv_at hl 0 rfl) ?_
      refine lv_iload_n hx hb dX5_needs_50 rfl (lv_at hl 2 rfl) ?_
      refine rr_callV (As := [.int z]) C hN 0 (Nat.lt_of_lt_of_le (by decide) hNN) rfl rfl rfl (ct_X5_isOpen l (q := q0) (by omega) hzp hNN (by rw [eu1]; exact hof q0 (by omega))) gX5_needs_X5_isOpen rfl rfl rfl 1 (by decide +kernel) ⟨Nat.le_of_ble_eq_true rfl, Nat.le_of_ble_eq_true rfl⟩ rfl hl.1 rfl (Nat.le_of_ble_eq_true rfl) ⟨Nat.zero_le _, Nat.zero_le _⟩ dX5_needs_51 (fun H locs hN => ?_)
      refine lv_topi (fun v3 ev3 => ?_)
      refine lv_if_eq (tgt := 85) hx hb dX5_needs_54 (by decide) (fun c_54 => ?_) (fun c_54 => ?_)
      · refine lv_bipush (v := (-3)) hx hb dX5_needs_85 (by decide) ?_
        exact rr_iret C hN dX5_needs_87 (by unfold mo_needs; rw [if_neg (by rw [← hyp, ← hzp]; exact c_35)]; rw [if_neg (by have h9 := c_46; rw [ev2, eu1] at h9; exact h9), if_pos (by have h9 := c_54; rw [ev3, eu1] at h9; exact h9)]; try (rw [eu1]; rfl)) (by unfold mo_needs; rw [if_neg (by rw [← hyp, ← hzp]; exact c_35)]; rw [if_neg (by have h9 := c_46; rw [ev2, eu1] at h9; exact h9), if_pos (by have h9 := c_54; rw [ev3, eu1] at h9; exact h9)]; try (rw [eu1]; rfl))
      · refine lv_aload_n hx hb dX5_needs_57 rfl (lv_at hl 0 rfl) ?_
        refine rr_get C hN 0 (Nat.lt_of_lt_of_le (by decide) hNN) rfl rfl kw_X5_needs_X5 20 (by decide) (List.mem_of_getElem? (i := 3) rfl) (v := .ref (B 18)) rfl dX5_needs_58 ?_
        refine lv_aload_n hx hb dX5_needs_61 rfl (lv_at hl 0 rfl) ?_
        refine rr_get C hN 0 (Nat.lt_of_lt_of_le (by decide) hNN) rfl rfl kw_X5_needs_X5 19 (by decide) (List.mem_of_getElem? (i := 4) rfl) (v := .ref (B 17)) rfl dX5_needs_62 ?_
        refine lv_iload_n hx hb dX5_needs_65 rfl (lv_at hl 1 rfl) ?_
        refine rr_iald C hN 17 (Nat.lt_of_lt_of_le (by decide) hNN) rfl (by decide) p0 (by omega) hyp dX5_needs_66 ?_
        refine rr_zald C hN 18 (Nat.lt_of_lt_of_le (by decide) hNN) rfl (by decide) (mo_rd u 17 p0) (Nat.lt_succ_of_le (hse p0 (by omega)).2) (by rw [eu1]; exact (hse p0 (by omega)).1) dX5_needs_67 ?_
        refine lv_if_ne (tgt := 85) hx hb dX5_needs_68 (by decide) (fun c_68 => ?_) (fun c_68 => ?_)
        · refine lv_bipush (v := (-3)) hx hb dX5_needs_85 (by decide) ?_
          exact rr_iret C hN dX5_needs_87 (by unfold mo_needs; rw [if_neg (by rw [← hyp, ← hzp]; exact c_35)]; rw [if_neg (by have h9 := c_46; rw [ev2, eu1] at h9; exact h9), if_neg (by have h9 := c_54; rw [ev3, eu1] at h9; exact h9), if_neg (by have h9 := c_68; rw [eu1] at h9; exact h9)]; try (rw [eu1]; rfl)) (by unfold mo_needs; rw [if_neg (by rw [← hyp, ← hzp]; exact c_35)]; rw [if_neg (by have h9 := c_46; rw [ev2, eu1] at h9; exact h9), if_neg (by have h9 := c_54; rw [ev3, eu1] at h9; exact h9), if_neg (by have h9 := c_68; rw [eu1] at h9; exact h9)]; try (rw [eu1]; rfl))
        · refine lv_aload_n hx hb dX5_needs_71 rfl (lv_at hl 0 rfl) ?_
          refine rr_get C hN 0 (Nat.lt_of_lt_of_le (by decide) hNN) rfl rfl kw_X5_needs_X5 20 (by decide) (List.mem_of_getElem? (i := 3) rfl) (v := .ref (B 18)) rfl dX5_needs_72 ?_
          refine lv_aload_n hx hb dX5_needs_75 rfl (lv_at hl 0 rfl) ?_
          refine rr_get C hN 0 (Nat.lt_of_lt_of_le (by decide) hNN) rfl rfl kw_X5_needs_X5 19 (by decide) (List.mem_of_getElem? (i := 4) rfl) (v := .ref (B 17)) rfl dX5_needs_76 ?_
          refine lv_iload_n hx hb dX5_needs_79 rfl (lv_at hl 2 rfl) ?_
          refine rr_iald C hN 17 (Nat.lt_of_lt_of_le (by decide) hNN) rfl (by decide) q0 (by omega) hzp dX5_needs_80 ?_
          refine rr_zald C hN 18 (Nat.lt_of_lt_of_le (by decide) hNN) rfl (by decide) (mo_rd u 17 q0) (Nat.lt_succ_of_le (hse q0 (by omega)).2) (by rw [eu1]; exact (hse q0 (by omega)).1) dX5_needs_81 ?_
          refine lv_if_eq (tgt := 88) hx hb dX5_needs_82 (by decide) (fun c_82 => ?_) (fun c_82 => ?_)
          · refine lv_aload_n hx hb dX5_needs_88 rfl (lv_at hl 0 rfl) ?_
            refine rr_get C hN 0 (Nat.lt_of_lt_of_le (by decide) hNN) rfl rfl kw_X5_needs_X5 19 (by decide) (List.mem_of_getElem? (i := 4) rfl) (v := .ref (B 17)) rfl dX5_needs_89 ?_
            refine lv_iload_n hx hb dX5_needs_92 rfl (lv_at hl 2 rfl) ?_
            refine rr_iald C hN 17 (Nat.lt_of_lt_of_le (by decide) hNN) rfl (by decide) q0 (by omega) hzp dX5_needs_93 ?_
            refine lv_istore_n (lv' := [(3, .int (u1 17 q0)), (0, .ref (B 0)), (1, .int y), (2, .int z)]) hx hb dX5_needs_94 rfl hl (by decide) rfl (fun ls hl => ?_)
            refine lv_iconst (v := 0) hx hb dX5_needs_95 (by decide) ?_
            refine lv_istore (lv' := [(4, .int 0), (3, .int (u1 17 q0)), (0, .ref (B 0)), (1, .int y), (2, .int z)]) hx hb dX5_needs_96 hl (by decide) rfl (fun ls hl => ?_)
            refine lv_iconst (v := 1) hx hb dX5_needs_98 (by decide) ?_
            refine lv_istore (lv' := [(5, .int 1), (4, .int 0), (3, .int (u1 17 q0)), (0, .ref (B 0)), (1, .int y), (2, .int z)]) hx hb dX5_needs_99 hl (by decide) rfl (fun ls hl => ?_)
            have hE : mo_needs P u p0 q0 = mo_nl P 1 p0 (u1 17 q0) u1 0 := by unfold mo_needs; rw [if_neg (by rw [← hyp, ← hzp]; exact c_35), if_neg (by have h9 := c_46; rw [ev2, eu1] at h9; exact h9), if_neg (by have h9 := c_54; rw [ev3, eu1] at h9; exact h9), if_pos (by have h9 := c_68; rw [eu1] at h9; exact h9), if_pos (by have h9 := c_82; rw [eu1] at h9; exact h9), eu1]; rfl
            exact lp_X5_needs C hNN hP60 y z (u1 17 q0) (p0 := p0) (by omega) hyp P 1 0 1 u1 (by omega) hpz rfl (by omega) (by rw [hE]) (by rw [hE]) _ _ _ hN (lv_sub hl [3, 4, 5, 2, 1, 0] rfl)
          · refine lv_bipush (v := (-3)) hx hb dX5_needs_85 (by decide) ?_
            exact rr_iret C hN dX5_needs_87 (by unfold mo_needs; rw [if_neg (by rw [← hyp, ← hzp]; exact c_35)]; rw [if_neg (by have h9 := c_46; rw [ev2, eu1] at h9; exact h9), if_neg (by have h9 := c_54; rw [ev3, eu1] at h9; exact h9), if_pos (by have h9 := c_68; rw [eu1] at h9; exact h9), if_neg (by have h9 := c_82; rw [eu1] at h9; exact h9)]; try (rw [eu1]; rfl)) (by unfold mo_needs; rw [if_neg (by rw [← hyp, ← hzp]; exact c_35)]; rw [if_neg (by have h9 := c_46; rw [ev2, eu1] at h9; exact h9), if_neg (by have h9 := c_54; rw [ev3, eu1] at h9; exact h9), if_pos (by have h9 := c_68; rw [eu1] at h9; exact h9), if_neg (by have h9 := c_82; rw [eu1] at h9; exact h9)]; try (rw [eu1]; rfl))
  · refine lv_bipush (v := (-2)) hx hb dX5_needs_38 (by decide) ?_
    exact rr_iret C hN dX5_needs_40 (by unfold mo_needs; rw [if_pos (by rw [← hyp, ← hzp]; exact c_35)]; try (rw [eu1]; rfl)) (by unfold mo_needs; rw [if_pos (by rw [← hyp, ← hzp]; exact c_35)]; try (rw [eu1]; rfl))
