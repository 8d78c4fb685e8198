def mo_isP (p : Nat) : Bool := (List.range p).all (fun d => decide (d < 2) || decide (p % d ≠ 0))
def mo_pc : Nat → Nat
  | 0 => 0
  | p + 1 => if decide (2 ≤ p) && mo_isP p then mo_pc p + 1 else mo_pc p
def mo_pr : Nat → Nat → Nat → Int32 → Int32
  | 0, _, _, is => is
  | d + 1, k, p, is => mo_pr d (k + 1) p (if is = 0 then 0 else if nI p - nI p / nI k * nI k ≤ 0 then 0 else 1)
def mo_i1 (u : ww_U) (p : Nat) : ww_U := if mo_pc p < 8 then ww_up (mo_rt 38 0 (nI p) 2 0 u).1 22 (mo_pc p) (mo_rt 38 0 (nI p) 2 0 u).2.toInt32 else u
def mo_i2 (u : ww_U) (p : Nat) : ww_U := ww_up (mo_rt 38 0 (nI p) 3 0 u).1 23 (mo_pc p) (mo_rt 38 0 (nI p) 3 0 u).2.toInt32
def mo_ini : Nat → Nat → ww_U → ww_U
  | 0, _, u => u
  | d + 1, k, u => mo_ini d (k + 1) (if mo_isP k then mo_i2 (mo_i1 u k) k else u)
def mo_u0 : ww_U := mo_ini 310 2 (fun _ _ => 0)
theorem mo_pr_0 {d k p : Nat} : mo_pr d k p 0 = 0 := by
  induction d generalizing k with
  | zero => rfl
  | succ d ih => unfold mo_pr; rw [if_pos rfl]; exact ih
theorem mo_pr_1 {d k p : Nat} (hk : 2 ≤ k) (hd : k + d = p) (hp : p < 2 ^ 30) (h : ∀ j, k ≤ j → j < p → p % j ≠ 0) : mo_pr d k p 1 = 1 := by
  induction d generalizing k with
  | zero => rfl
  | succ d ih =>
    unfold mo_pr
    have h0 := h k (Nat.le_refl _) (by omega)
    have hlt : p % k < p := Nat.lt_of_lt_of_le (Nat.mod_lt _ (by omega)) (by omega)
    rw [pk_rem (by omega) (by omega) (by omega), if_neg (by decide), if_neg (show ¬ nI (p % k) ≤ 0 from (show ¬ nI (p % k) ≤ nI 0 from nI_ge (by omega) (by omega)))]
    exact ih (by omega) (by omega) (fun j h1 h2 => h j (by omega) h2)
theorem mo_pr_2 {d k p : Nat} (hk : 2 ≤ k) (hd : k + d = p) (hp : p < 2 ^ 30) {j : Nat} (h1 : k ≤ j) (h2 : j < p) (h3 : p % j = 0) : mo_pr d k p 1 = 0 := by
  induction d generalizing k with
  | zero => omega
  | succ d ih =>
    unfold mo_pr
    rw [pk_rem (by omega) (by omega) (by omega), if_neg (by decide)]
    by_cases h0 : p % k = 0
    · rw [if_pos (by rw [h0]; decide)]; exact mo_pr_0
    · have hlt : p % k < p := Nat.lt_of_lt_of_le (Nat.mod_lt _ (by omega)) (by omega)
      rw [if_neg (show ¬ nI (p % k) ≤ 0 from (show ¬ nI (p % k) ≤ nI 0 from nI_ge (by omega) (by omega)))]
      refine ih (by omega) (by omega) ?_
      rcases Nat.lt_or_ge k j with z | z
      · exact z
      · exact absurd (by rw [show k = j by omega]; exact h3) h0
theorem mo_isP_iff {p : Nat} : mo_isP p = true ↔ ∀ j, 2 ≤ j → j < p → p % j ≠ 0 := by
  unfold mo_isP
  rw [List.all_eq_true]
  constructor
  · intro h j h1 h2
    have := h j (List.mem_range.mpr h2)
    simp only [Bool.or_eq_true, decide_eq_true_eq] at this
    rcases this with z | z
    · omega
    · exact z
  · intro h j hj
    simp only [Bool.or_eq_true, decide_eq_true_eq]
    rcases Nat.lt_or_ge j 2 with z | z
    · exact Or.inl z
    · exact Or.inr (h j z (List.mem_range.mp hj))
theorem mo_pr_isP {p : Nat} (h2 : 2 ≤ p) (hp : p < 2 ^ 30) : mo_pr (p - 2) 2 p 1 = if mo_isP p then 1 else 0 := by
  by_cases h : mo_isP p = true
  · rw [if_pos h, mo_pr_1 (Nat.le_refl _) (by omega) hp (mo_isP_iff.mp h)]
  · rw [if_neg h]
    have hn : ¬ ∀ j, 2 ≤ j → j < p → p % j ≠ 0 := fun z => h (mo_isP_iff.mpr z)
    obtain ⟨j, hj⟩ := Classical.not_forall.mp hn
    have hj2 : 2 ≤ j ∧ j < p ∧ p % j = 0 := by
      refine ⟨?_, ?_, ?_⟩
      · exact Classical.byContradiction (fun z => hj (fun a => absurd a z))
      · exact Classical.byContradiction (fun z => hj (fun _ a => absurd a z))
      · exact Classical.byContradiction (fun z => hj (fun _ _ => z))
    exact mo_pr_2 (Nat.le_refl _) (by omega) hp hj2.1 hj2.2.1 hj2.2.2
set_option maxRecDepth 20000 in
theorem mo_pc_lt : ∀ k, k < 312 → mo_pc k < 64 := by decide +kernel
set_option maxRecDepth 20000 in
theorem mo_pc_312 : mo_pc 312 = 64 := by decide +kernel
theorem mo_pc_s {k : Nat} (h2 : 2 ≤ k) (h : mo_isP k = true) : mo_pc (k + 1) = mo_pc k + 1 := by
  show (if (decide (2 ≤ k) && mo_isP k) = true then mo_pc k + 1 else mo_pc k) = _
  rw [if_pos (by simp [h2, h])]
theorem mo_pc_n {k : Nat} (h : ¬ mo_isP k = true) : mo_pc (k + 1) = mo_pc k := by
  show (if (decide (2 ≤ k) && mo_isP k) = true then mo_pc k + 1 else mo_pc k) = _
  rw [if_neg (by simp [h])]
set_option maxHeartbeats 4000000 in
set_option maxRecDepth 100000 in
theorem lp_X5_in2 {p : Program} {l : Launch} {e : Env} {s : State} {m : MethodId} {args : Array Value} {below : List Frame} {meth : Method} {c : Code} {D : va_G} {ca : Nat → ClassId} {B : Nat → Nat} {N n : Nat} {X : va_W} {A : Nat → Prop} (C : ww_C D ca yX5_init.cls cX5_init 5 wsX5_init none A p s m args meth c) (hNN : 29 ≤ N) (fv pv : Int32) {p0 : Nat} (hp2 : 2 ≤ p0) (hp : p0 < 400) (hpv : pv = nI p0) {Q : State → Prop} {uf : ww_U} {isf : Int32} (kk : ∀ (H : Heap) (locs : List Loc) (ls : Array Slot), ww_N D ca B N n uf X A s.heap H locs → lv_has ls 5 [(0, .ref (B 0)), (1, .int fv), (2, .int pv), (3, .int isf)] → W p l e (headSpec wsX5_init ({ frames := 2, cells := 28, slots := 21266, locals := 57 } : Room)).room s m args below meth c H locs 28 21266 Q (F0 m 275 ls [])) : ∀ (d k : Nat) (is : Int32) (y : Int32) (u : ww_U), k + d = p0 → (y = nI k) → (2 ≤ k) → uf = u → isf = mo_pr d k p0 is → ∀ (H : Heap) (locs : List Loc) (ls : Array Slot), ww_N D ca B N n u X A s.heap H locs → lv_has ls 5 [(0, .ref (B 0)), (1, .int fv), (2, .int pv), (3, .int is), (4, .int y)] → W p l e (headSpec wsX5_init ({ frames := 2, cells := 28, slots := 21266, locals := 57 } : Room)).room s m args below meth c H locs 28 21266 Q (F0 m 246 ls []) := by
  have hx := C.1.1
  have hb := C.1.2.1
  intro d
  induction d with
  | zero =>
    intro k is y u hkd hxk hk2 hu ho_is H locs ls hN hl
    refine lv_iload hx hb dX5_init_246 (lv_at hl 4 rfl) ?_
    refine lv_iload_n hx hb dX5_init_248 rfl (lv_at hl 2 rfl) ?_
    refine lv_icmp_ge (tgt := 275) hx hb dX5_init_249 (by decide) (fun c_249 => ?_) (fun c_249 => absurd c_249 (fun h => h (by rw [hpv, hxk, show k = p0 by omega]; exact nI_le (Nat.le_refl _) (by omega))))
    have hE : uf = u := hu
    rw [← hE] at hN
    have hz_is : isf = is := ho_is
    subst hz_is
    exact kk H locs ls hN (lv_sub hl [0, 1, 2, 3] rfl)
  | succ d ih =>
    intro k is y u hkd hxk hk2 hu ho_is H locs ls hN hl
    refine lv_iload hx hb dX5_init_246 (lv_at hl 4 rfl) ?_
    refine lv_iload_n hx hb dX5_init_248 rfl (lv_at hl 2 rfl) ?_
    refine lv_icmp_ge (tgt := 275) hx hb dX5_init_249 (by decide) (fun c_249 => absurd c_249 (by rw [hpv, hxk]; exact nI_ge (by omega) (by omega))) (fun c_249 => ?_)
    refine lv_iload_n hx hb dX5_init_252 rfl (lv_at hl 3 rfl) ?_
    refine lv_if_eq (tgt := 267) hx hb dX5_init_253 (by decide) (fun c_253 => ?_) (fun c_253 => ?_)
    · refine lv_iconst (v := 0) hx hb dX5_init_267 (by decide) ?_
      refine lv_istore_n (lv' := [(3, .int 0), (0, .ref (B 0)), (1, .int fv), (2, .int pv), (4, .int y)]) hx hb dX5_init_268 rfl hl (by decide) rfl (fun ls hl => ?_)
      obtain ⟨vs1, evs1⟩ : ∃ y9 : Int32, y9 = y + 1 := ⟨_, rfl⟩
      refine lv_iinc (v := vs1) (lv' := [(4, .int vs1), (3, .int 0), (0, .ref (B 0)), (1, .int fv), (2, .int pv)]) hx hb dX5_init_269 hl (k := 4) rfl (by rw [evs1]; rfl) (by decide) rfl (fun ls hl => ?_)
      refine lv_goto (tgt := 246) hx hb dX5_init_272 (by decide) ?_
      exact ih (k + 1) 0 vs1 u (by omega) (by rw [evs1, hxk]; exact nI_1 k) (by omega) hu (ho_is.trans (by simp only [mo_pr]; (first | rw [if_pos c_253] | (rw [if_neg c_253]; (first | rw [if_pos (by rw [← hpv, ← hxk, ← evs1]; exact c_260)] | rw [if_neg (by rw [← hpv, ← hxk, ← evs1]; exact c_260)]))))) H locs ls hN (lv_sub hl [2, 3, 4, 1, 0] rfl)
    · refine lv_iload_n hx hb dX5_init_256 rfl (lv_at hl 2 rfl) ?_
      refine lv_iload hx hb dX5_init_257 (lv_at hl 4 rfl) ?_
      refine lv_irem hx hb dX5_init_259 (by rw [hxk]; exact nI_ne0 (by omega) (by omega)) ?_
      refine lv_topi (fun vs2 evs2 => ?_)
      refine lv_if_le (tgt := 267) hx hb dX5_init_260 (by decide) (fun c_260 => ?_) (fun c_260 => ?_)
      · refine lv_iconst (v := 0) hx hb dX5_init_267 (by decide) ?_
        refine lv_istore_n (lv' := [(3, .int 0), (0, .ref (B 0)), (1, .int fv), (2, .int pv), (4, .int y)]) hx hb dX5_init_268 rfl hl (by decide) rfl (fun ls hl => ?_)
        obtain ⟨vs3, evs3⟩ : ∃ y9 : Int32, y9 = y + 1 := ⟨_, rfl⟩
        refine lv_iinc (v := vs3) (lv' := [(4, .int vs3), (3, .int 0), (0, .ref (B 0)), (1, .int fv), (2, .int pv)]) hx hb dX5_init_269 hl (k := 4) rfl (by rw [evs3]; rfl) (by decide) rfl (fun ls hl => ?_)
        refine lv_goto (tgt := 246) hx hb dX5_init_272 (by decide) ?_
        exact ih (k + 1) 0 vs3 u (by omega) (by rw [evs3, hxk]; exact nI_1 k) (by omega) hu (ho_is.trans (by simp only [mo_pr]; (first | rw [if_pos c_253] | (rw [if_neg c_253]; (first | rw [if_pos (by rw [← hpv, ← hxk, ← evs2]; exact c_260)] | rw [if_neg (by rw [← hpv, ← hxk, ← evs2]; exact c_260)]))))) H locs ls hN (lv_sub hl [2, 3, 4, 1, 0] rfl)
      · refine lv_iconst (v := 1) hx hb dX5_init_263 (by decide) ?_
        refine lv_goto (tgt := 268) hx hb dX5_init_264 (by decide) ?_
        refine lv_istore_n (lv' := [(3, .int 1), (0, .ref (B 0)), (1, .int fv), (2, .int pv), (4, .int y)]) hx hb dX5_init_268 rfl hl (by decide) rfl (fun ls hl => ?_)
        obtain ⟨vs4, evs4⟩ : ∃ y9 : Int32, y9 = y + 1 := ⟨_, rfl⟩
        refine lv_iinc (v := vs4) (lv' := [(4, .int vs4), (3, .int 1), (0, .ref (B 0)), (1, .int fv), (2, .int pv)]) hx hb dX5_init_269 hl (k := 4) rfl (by rw [evs4]; rfl) (by decide) rfl (fun ls hl => ?_)
        refine lv_goto (tgt := 246) hx hb dX5_init_272 (by decide) ?_
        exact ih (k + 1) 1 vs4 u (by omega) (by rw [evs4, hxk]; exact nI_1 k) (by omega) hu (ho_is.trans (by simp only [mo_pr]; (first | rw [if_pos c_253] | (rw [if_neg c_253]; (first | rw [if_pos (by rw [← hpv, ← hxk, ← evs2]; exact c_260)] | rw [if_neg (by rw [← hpv, ← hxk, ← evs2]; exact c_260)]))))) H locs ls hN (lv_sub hl [2, 3, 4, 1, 0] rfl)
set_option maxRecDepth 20000 in
theorem kw_X5_init_X5 : ww_K wsX5_init RX5 TX5 36 tyX5 := ⟨by decide +kernel, tyX5_ok, nmX5⟩
set_option maxHeartbeats 4000000 in
set_option maxRecDepth 100000 in
theorem lp_X5_in1 {p : Program} {l : Launch} {e : Env} {s : State} {m : MethodId} {args : Array Value} {below : List Frame} {meth : Method} {c : Code} {D : va_G} {ca : Nat → ClassId} {B : Nat → Nat} {N n : Nat} {X : va_W} {A : Nat → Prop} (C : ww_C D ca yX5_init.cls cX5_init 5 wsX5_init none A p s m args meth c) (hNN : 29 ≤ N)  {Q : State → Prop} {uf : ww_U}  (kk : ∀ (H : Heap) (locs : List Loc) (ls : Array Slot), ww_N D ca B N n uf X A s.heap H locs → lv_has ls 5 [(0, .ref (B 0))] → W p l e (headSpec wsX5_init ({ frames := 2, cells := 28, slots := 21266, locals := 57 } : Room)).room s m args below meth c H locs 28 21266 Q (F0 m 323 ls [])) : ∀ (d k : Nat) (fv : Int32) (pv : Int32) (u : ww_U), k + d = 312 → (pv = nI k) → (fv = nI (mo_pc k)) → (2 ≤ k) → uf = mo_ini d k u → ∀ (H : Heap) (locs : List Loc) (ls : Array Slot), ww_N D ca B N n u X A s.heap H locs → lv_has ls 5 [(0, .ref (B 0)), (1, .int fv), (2, .int pv)] → W p l e (headSpec wsX5_init ({ frames := 2, cells := 28, slots := 21266, locals := 57 } : Room)).room s m args below meth c H locs 28 21266 Q (F0 m 235 ls []) := by
  have hx := C.1.1
  have hb := C.1.2.1
  intro d
  induction d with
  | zero =>
    intro k fv pv u hkd hpv hf hk2 hu  H locs ls hN hl
    refine lv_iload_n hx hb dX5_init_235 rfl (lv_at hl 1 rfl) ?_
    refine lv_bipush (v := 64) hx hb dX5_init_236 (by decide) ?_
    refine lv_icmp_ge (tgt := 323) hx hb dX5_init_238 (by decide) (fun c_238 => ?_) (fun c_238 => absurd c_238 (fun h => h (by rw [hf, show k = 312 by omega, mo_pc_312]; decide)))
    have hE : uf = u := hu
    rw [← hE] at hN
    exact kk H locs ls hN (lv_sub hl [0] rfl)
  | succ d ih =>
    intro k fv pv u hkd hpv hf hk2 hu  H locs ls hN hl
    have hpl := mo_pc_lt k (by omega)
    refine lv_iload_n hx hb dX5_init_235 rfl (lv_at hl 1 rfl) ?_
    refine lv_bipush (v := 64) hx hb dX5_init_236 (by decide) ?_
    refine lv_icmp_ge (tgt := 323) hx hb dX5_init_238 (by decide) (fun c_238 => absurd c_238 (by rw [hf]; exact (show ¬ nI 64 ≤ nI (mo_pc k) from nI_ge (mo_pc_lt k (by omega)) (by decide)))) (fun c_238 => ?_)
    refine lv_iconst (v := 1) hx hb dX5_init_241 (by decide) ?_
    refine lv_istore_n (lv' := [(3, .int 1), (0, .ref (B 0)), (1, .int fv), (2, .int pv)]) hx hb dX5_init_242 rfl hl (by decide) rfl (fun ls hl => ?_)
    refine lv_iconst (v := 2) hx hb dX5_init_243 (by decide) ?_
    refine lv_istore (lv' := [(4, .int 2), (3, .int 1), (0, .ref (B 0)), (1, .int fv), (2, .int pv)]) hx hb dX5_init_244 hl (by decide) rfl (fun ls hl => ?_)
    obtain ⟨vs2, evs2⟩ : ∃ y9 : Int32, y9 = mo_pr (k - 2) 2 k 1 := ⟨_, rfl⟩
    refine lp_X5_in2 C hNN fv pv hk2 (by omega) hpv (uf := u) (isf := vs2) (fun H locs ls hN hl => ?_) (k - 2) 2 1 2 u (by omega) rfl (by omega) rfl evs2 _ _ _ hN (lv_sub hl [2, 3, 4, 1, 0] rfl)
    obtain ⟨us1, eus1⟩ : ∃ y9 : ww_U, y9 = u := ⟨_, rfl⟩
    rw [← eus1] at hN
    have hIS : vs2 = if mo_isP k then 1 else 0 := by rw [evs2]; exact mo_pr_isP hk2 (by omega)
    refine lv_iload_n hx hb dX5_init_275 rfl (lv_at hl 3 rfl) ?_
    refine lv_if_ne (tgt := 282) hx hb dX5_init_276 (by decide) (fun c_276 => ?_) (fun c_276 => ?_)
    · have hPr : mo_isP k = true := by rcases Bool.eq_false_or_eq_true (mo_isP k) with z | z; exact z; exact absurd (by rw [hIS, z]; rfl) c_276
      refine lv_iload_n hx hb dX5_init_282 rfl (lv_at hl 1 rfl) ?_
      refine lv_bipush (v := 8) hx hb dX5_init_283 (by decide) ?_
      refine lv_icmp_ge (tgt := 301) hx hb dX5_init_285 (by decide) (fun c_285 => ?_) (fun c_285 => ?_)
      · have h8 : ¬ mo_pc k < 8 := fun z => nI_ge z (by decide) (by rw [← hf]; exact c_285)
        have hI1 : us1 = mo_i1 u k := by unfold mo_i1; rw [if_neg h8, eus1]
        refine lv_aload_n hx hb dX5_init_301 rfl (lv_at hl 0 rfl) ?_
        refine rr_get C hN 0 (Nat.lt_of_lt_of_le (by decide) hNN) rfl rfl kw_X5_init_X5 30 (by decide) (List.mem_of_getElem? (i := 28) rfl) (v := .ref (B 23)) rfl dX5_init_302 ?_
        refine lv_iload_n hx hb dX5_init_305 rfl (lv_at hl 1 rfl) ?_
        refine lv_aload_n hx hb dX5_init_306 rfl (lv_at hl 0 rfl) ?_
        refine lv_iload_n hx hb dX5_init_307 rfl (lv_at hl 2 rfl) ?_
        refine lv_iconst (v := 3) hx hb dX5_init_308 (by decide) ?_
        refine rr_callV (As := [.int pv, .int 3]) C hN 0 (Nat.lt_of_lt_of_le (by decide) hNN) rfl rfl rfl (ct_X5_root l (t0 := 3) (by omega) rfl hNN) gX5_init_X5_root rfl rfl rfl 2 (by decide +kernel) ⟨Nat.le_of_ble_eq_true rfl, Nat.le_of_ble_eq_true rfl⟩ rfl hl.1 rfl (Nat.le_of_ble_eq_true rfl) ⟨Nat.le_of_ble_eq_true rfl, Nat.le_of_ble_eq_true rfl⟩ dX5_init_309 (fun H locs hN => ?_)
        obtain ⟨us3, eus3⟩ : ∃ y : ww_U, y = (mo_rt 38 0 pv 3 0 us1).1 := ⟨_, rfl⟩
        rw [← eus3] at hN
        refine lv_topl (fun vs4 evs4 => ?_)
        refine lv_l2i hx hb dX5_init_312 rfl ?_
        refine lv_topi (fun vs5 evs5 => ?_)
        refine rr_iast C hN 23 (Nat.lt_of_lt_of_le (by decide) hNN) (fun _ => rfl) (by decide) (mo_pc k) hpl hf dX5_init_313 (fun us6 eus6 H locs hN => ?_)
        obtain ⟨vs7, evs7⟩ : ∃ y9 : Int32, y9 = fv + 1 := ⟨_, rfl⟩
        refine lv_iinc (v := vs7) (lv' := [(1, .int vs7), (0, .ref (B 0)), (2, .int pv), (3, .int vs2)]) hx hb dX5_init_314 hl (k := 1) rfl (by rw [evs7]; rfl) (by decide) rfl (fun ls hl => ?_)
        obtain ⟨vs8, evs8⟩ : ∃ y9 : Int32, y9 = pv + 1 := ⟨_, rfl⟩
        refine lv_iinc (v := vs8) (lv' := [(2, .int vs8), (1, .int vs7), (0, .ref (B 0)), (3, .int vs2)]) hx hb dX5_init_317 hl (k := 2) rfl (by rw [evs8]; rfl) (by decide) rfl (fun ls hl => ?_)
        refine lv_goto (tgt := 235) hx hb dX5_init_320 (by decide) ?_
        exact ih (k + 1) vs7 vs8 us6 (by omega) (by rw [evs8, hpv]; exact nI_1 k) (by rw [evs7, hf, mo_pc_s hk2 hPr]; exact nI_1 _) (by omega) (hu.trans (by simp only [mo_ini]; rw [if_pos hPr, ← hI1]; unfold mo_i2; rw [eus6, evs5, evs4, eus3, hpv]))  H locs ls hN (lv_sub hl [2, 1, 0] rfl)
      · have h8 : mo_pc k < 8 := by rcases Nat.lt_or_ge (mo_pc k) 8 with z | z; exact z; exact absurd (by rw [hf]; exact (show nI 8 ≤ nI (mo_pc k) from nI_le z (by omega))) c_285
        refine lv_aload_n hx hb dX5_init_288 rfl (lv_at hl 0 rfl) ?_
        refine rr_get C hN 0 (Nat.lt_of_lt_of_le (by decide) hNN) rfl rfl kw_X5_init_X5 29 (by decide) (List.mem_of_getElem? (i := 27) rfl) (v := .ref (B 22)) rfl dX5_init_289 ?_
        refine lv_iload_n hx hb dX5_init_292 rfl (lv_at hl 1 rfl) ?_
        refine lv_aload_n hx hb dX5_init_293 rfl (lv_at hl 0 rfl) ?_
        refine lv_iload_n hx hb dX5_init_294 rfl (lv_at hl 2 rfl) ?_
        refine lv_iconst (v := 2) hx hb dX5_init_295 (by decide) ?_
        refine rr_callV (As := [.int pv, .int 2]) C hN 0 (Nat.lt_of_lt_of_le (by decide) hNN) rfl rfl rfl (ct_X5_root l (t0 := 2) (by omega) rfl hNN) gX5_init_X5_root rfl rfl rfl 2 (by decide +kernel) ⟨Nat.le_of_ble_eq_true rfl, Nat.le_of_ble_eq_true rfl⟩ rfl hl.1 rfl (Nat.le_of_ble_eq_true rfl) ⟨Nat.le_of_ble_eq_true rfl, Nat.le_of_ble_eq_true rfl⟩ dX5_init_296 (fun H locs hN => ?_)
        obtain ⟨us9, eus9⟩ : ∃ y : ww_U, y = (mo_rt 38 0 pv 2 0 us1).1 := ⟨_, rfl⟩
        rw [← eus9] at hN
        refine lv_topl (fun vs10 evs10 => ?_)
        refine lv_l2i hx hb dX5_init_299 rfl ?_
        refine lv_topi (fun vs11 evs11 => ?_)
        refine rr_iast C hN 22 (Nat.lt_of_lt_of_le (by decide) hNN) (fun _ => rfl) (by decide) (mo_pc k) h8 hf dX5_init_300 (fun us12 eus12 H locs hN => ?_)
        have hI1 : us12 = mo_i1 u k := by unfold mo_i1; rw [if_pos h8, eus12, evs11, evs10, eus9, hpv, eus1]
        refine lv_aload_n hx hb dX5_init_301 rfl (lv_at hl 0 rfl) ?_
        refine rr_get C hN 0 (Nat.lt_of_lt_of_le (by decide) hNN) rfl rfl kw_X5_init_X5 30 (by decide) (List.mem_of_getElem? (i := 28) rfl) (v := .ref (B 23)) rfl dX5_init_302 ?_
        refine lv_iload_n hx hb dX5_init_305 rfl (lv_at hl 1 rfl) ?_
        refine lv_aload_n hx hb dX5_init_306 rfl (lv_at hl 0 rfl) ?_
        refine lv_iload_n hx hb dX5_init_307 rfl (lv_at hl 2 rfl) ?_
        refine lv_iconst (v := 3) hx hb dX5_init_308 (by decide) ?_
        refine rr_callV (As := [.int pv, .int 3]) C hN 0 (Nat.lt_of_lt_of_le (by decide) hNN) rfl rfl rfl (ct_X5_root l (t0 := 3) (by omega) rfl hNN) gX5_init_X5_root rfl rfl rfl 2 (by decide +kernel) ⟨Nat.le_of_ble_eq_true rfl, Nat.le_of_ble_eq_true rfl⟩ rfl hl.1 rfl (Nat.le_of_ble_eq_true rfl) ⟨Nat.le_of_ble_eq_true rfl, Nat.le_of_ble_eq_true rfl⟩ dX5_init_309 (fun H locs hN => ?_)
        obtain ⟨us13, eus13⟩ : ∃ y : ww_U, y = (mo_rt 38 0 pv 3 0 us12).1 := ⟨_, rfl⟩
        rw [← eus13] at hN
        refine lv_topl (fun vs14 evs14 => ?_)
        refine lv_l2i hx hb dX5_init_312 rfl ?_
        refine lv_topi (fun vs15 evs15 => ?_)
        refine rr_iast C hN 23 (Nat.lt_of_lt_of_le (by decide) hNN) (fun _ => rfl) (by decide) (mo_pc k) hpl hf dX5_init_313 (fun us16 eus16 H locs hN => ?_)
        obtain ⟨vs17, evs17⟩ : ∃ y9 : Int32, y9 = fv + 1 := ⟨_, rfl⟩
        refine lv_iinc (v := vs17) (lv' := [(1, .int vs17), (0, .ref (B 0)), (2, .int pv), (3, .int vs2)]) hx hb dX5_init_314 hl (k := 1) rfl (by rw [evs17]; rfl) (by decide) rfl (fun ls hl => ?_)
        obtain ⟨vs18, evs18⟩ : ∃ y9 : Int32, y9 = pv + 1 := ⟨_, rfl⟩
        refine lv_iinc (v := vs18) (lv' := [(2, .int vs18), (1, .int vs17), (0, .ref (B 0)), (3, .int vs2)]) hx hb dX5_init_317 hl (k := 2) rfl (by rw [evs18]; rfl) (by decide) rfl (fun ls hl => ?_)
        refine lv_goto (tgt := 235) hx hb dX5_init_320 (by decide) ?_
        exact ih (k + 1) vs17 vs18 us16 (by omega) (by rw [evs18, hpv]; exact nI_1 k) (by rw [evs17, hf, mo_pc_s hk2 hPr]; exact nI_1 _) (by omega) (hu.trans (by simp only [mo_ini]; rw [if_pos hPr, ← hI1]; unfold mo_i2; rw [eus16, evs15, evs14, eus13, hpv]))  H locs ls hN (lv_sub hl [2, 1, 0] rfl)
    · refine lv_goto (tgt := 317) hx hb dX5_init_279 (by decide) ?_
      have hPr : ¬ mo_isP k = true := fun z => by rw [hIS, if_pos z] at c_276; exact absurd c_276 (by decide)
      obtain ⟨vs19, evs19⟩ : ∃ y9 : Int32, y9 = pv + 1 := ⟨_, rfl⟩
      refine lv_iinc (v := vs19) (lv' := [(2, .int vs19), (0, .ref (B 0)), (1, .int fv), (3, .int vs2)]) hx hb dX5_init_317 hl (k := 2) rfl (by rw [evs19]; rfl) (by decide) rfl (fun ls hl => ?_)
      refine lv_goto (tgt := 235) hx hb dX5_init_320 (by decide) ?_
      exact ih (k + 1) fv vs19 us1 (by omega) (by rw [evs19, hpv]; exact nI_1 k) (by rw [hf, mo_pc_n hPr]) (by omega) (hu.trans (by simp only [mo_ini]; rw [if_neg hPr, eus1]))  H locs ls hN (lv_sub hl [1, 2, 0] rfl)
