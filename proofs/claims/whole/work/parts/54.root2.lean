theorem mo_re_ne {d k a b : Nat} {x c : Int64} {u : ww_U} (h : b ≠ 24) : mo_re d k a x c u b = u b := by
  induction d generalizing k u c with
  | zero => rfl
  | succ d ih => show mo_re d (k + 1) a x _ _ b = _; rw [ih, ww_up_ne h]
theorem mo_rfh {A Bq M xa vp vp' c' vo q v12 : Nat} (hM : M = A * Bq) (hq : v12 = vo + q * Bq) (h2 : vp' + c' * M = vp + xa * A * vo) : vp' % M = (vp + xa * A * v12) % M := by
  have e1 : xa * A * v12 = xa * A * vo + xa * q * M := by
    rw [hq, hM, Nat.mul_add]
    refine congrArg (fun z => xa * A * vo + z) ?_
    ac_rfl
  rw [e1, ← Nat.add_assoc, Nat.add_mul_mod_self_right, ← h2, Nat.add_mul_mod_self_right]
theorem mo_rfp {a : Nat} (ha : a ≤ 12) : 65536 ^ 12 = 65536 ^ a * 65536 ^ (12 - a) := by
  have h := Nat.pow_add 65536 a (12 - a)
  rw [show a + (12 - a) = 12 by omega] at h
  exact h
theorem mo_rf1 {a X : Nat} {u : ww_U} {p o : Nat → Nat} (hp : lb u 24 p) (ho : lb u 25 o) (ha : a < 3) (hX : X < 2 ^ 38) :
    ∃ p', lb (mo_re (12 - a) 0 a (lN X) 0 u) 24 p' ∧ lb (mo_re (12 - a) 0 a (lN X) 0 u) 25 o ∧ va16 p' 12 % 65536 ^ 12 = (va16 p 12 + X / 2 ^ (16 * a) % 65536 * 65536 ^ a * va16 o 12) % 65536 ^ 12 := by
  obtain ⟨p', c', h1, h2⟩ := mo_re_eq (d := 12 - a) (k := 0) (c := 0) hp ho ha (by omega) (by decide) hX
  refine ⟨p', h1, fun j hj => by rw [mo_re_ne (by decide)]; exact ho j hj, ?_⟩
  obtain ⟨q, hq⟩ := va16_split (f := o) (a := 12 - a) (b := a)
  rw [show 12 - a + a = 12 by omega] at hq
  have z0 : va16 o 0 = 0 := rfl
  rw [z0, Nat.mul_zero, Nat.zero_mul, Nat.zero_add, Nat.add_zero, Nat.add_zero] at h2
  exact mo_rfh (mo_rfp (by omega)) hq h2
theorem mo_rfm {M p p1 p2 p3 y0 y1 y2 X o : Nat} (c1 : p1 % M = (p + y0 * o) % M) (c2 : p2 % M = (p1 + y1 * o) % M) (c3 : p3 % M = (p2 + y2 * o) % M) (e0 : y0 + y1 + y2 = X) : p3 % M = (p + X * o) % M := by
  rw [c3, Nat.add_mod, c2, ← Nat.add_mod, Nat.add_assoc, Nat.add_mod, c1, ← Nat.add_mod, ← e0, Nat.add_mul, Nat.add_mul]
  refine congrArg (fun z => z % M) ?_
  omega
theorem mo_rf_eq {X : Nat} {u : ww_U} {p o : Nat → Nat} (hp : lb u 24 p) (ho : lb u 25 o) (hX : X < 2 ^ 38) :
    ∃ p', lb (mo_rf 3 0 (lN X) u) 24 p' ∧ va16 p' 12 % 65536 ^ 12 = (va16 p 12 + X * va16 o 12) % 65536 ^ 12 := by
  obtain ⟨p1, a1, b1, c1⟩ := mo_rf1 (a := 0) hp ho (by omega) hX
  obtain ⟨p2, a2, b2, c2⟩ := mo_rf1 (a := 1) a1 b1 (by omega) hX
  obtain ⟨p3, a3, b3, c3⟩ := mo_rf1 (a := 2) a2 b2 (by omega) hX
  refine ⟨p3, a3, mo_rfm c1 c2 c3 ?_⟩
  show X / 1 % 65536 * 1 + X / 65536 % 65536 * 65536 + X / 4294967296 % 65536 * 4294967296 = X
  omega
theorem mo_rb_at {d k : Nat} {u : ww_U} (h : ∀ j, j < k → u 25 j = u 24 j) : ∀ j, j < k + d → mo_rb d k u 25 j = u 24 j := by
  induction d generalizing k u with
  | zero => intro j hj; exact h j (by omega)
  | succ d ih =>
    intro j hj
    show mo_rb d (k + 1) _ 25 j = _
    rw [ih (fun j hj => ?_) j (by omega), ww_up_ne (by decide)]
    rw [ww_up_at, ww_up_ne (show (24 : Nat) ≠ 25 by decide)]
    split
    · next e => rw [e]
    · exact h j (by omega)
theorem mo_rc_at {d k : Nat} {u : ww_U} (h : ∀ j, j < k → u 24 j = 0) : ∀ j, j < k + d → mo_rc d k u 24 j = 0 := by
  induction d generalizing k u with
  | zero => intro j hj; exact h j (by omega)
  | succ d ih =>
    intro j hj
    show mo_rc d (k + 1) _ 24 j = _
    refine ih (fun j hj => ?_) j (by omega)
    rw [ww_up_at]
    split
    · rfl
    · exact h j (by omega)
theorem mo_rc_ne {d k b : Nat} {u : ww_U} (h : b ≠ 24) : mo_rc d k u b = u b := by
  induction d generalizing k u with
  | zero => rfl
  | succ d ih => show mo_rc d (k + 1) _ b = _; rw [ih, ww_up_ne h]
theorem mo_rb_ne {d k b : Nat} {u : ww_U} (h : b ≠ 25) : mo_rb d k u b = u b := by
  induction d generalizing k u with
  | zero => rfl
  | succ d ih => show mo_rb d (k + 1) _ b = _; rw [ih, ww_up_ne h]
theorem mo_ra_ne {d k b : Nat} {u : ww_U} (h : b ≠ 24) : mo_ra d k u b = u b := by
  induction d generalizing k u with
  | zero => rfl
  | succ d ih => show mo_ra d (k + 1) _ b = _; rw [ih, ww_up_ne h]
theorem mo_rf_ne {d k b : Nat} {x : Int64} {u : ww_U} (h : b ≠ 24) : mo_rf d k x u b = u b := by
  induction d generalizing k u with
  | zero => rfl
  | succ d ih => show mo_rf d (k + 1) x _ b = _; rw [ih, mo_re_ne h]
theorem mo_rg_ne {d k b : Nat} {x : Int64} {u : ww_U} (h4 : b ≠ 24) (h5 : b ≠ 25) : mo_rg d k x u b = u b := by
  induction d generalizing k u with
  | zero => rfl
  | succ d ih => show mo_rg d (k + 1) x _ b = _; rw [ih, mo_rf_ne h4, mo_rc_ne h4, mo_rb_ne h5]
theorem mo_raise_ne {t b : Nat} {x : Int64} {u : ww_U} (h4 : b ≠ 24) (h5 : b ≠ 25) : mo_raise x t u b = u b := by
  unfold mo_raise
  rw [mo_rg_ne h4 h5, mo_ra_ne h4]
theorem mo_ra_at {d k : Nat} {u : ww_U} (h : ∀ j, j < k → u 24 j = if j = 0 then 1 else 0) : ∀ j, j < k + d → mo_ra d k u 24 j = if j = 0 then 1 else 0 := by
  induction d generalizing k u with
  | zero => intro j hj; exact h j (by omega)
  | succ d ih =>
    intro j hj
    show mo_ra d (k + 1) _ 24 j = _
    refine ih (fun j hj => ?_) j (by omega)
    rw [ww_up_at]
    by_cases e : j = k
    · rw [if_pos e, e]
    · rw [if_neg e]; exact h j (by omega)
theorem mo_rg_eq {X : Nat} (hX : X < 2 ^ 38) : ∀ (d k n : Nat) (u : ww_U) (p : Nat → Nat), lb u 24 p → va16 p 12 = X ^ n → n + d ≤ 3 → ∃ p', lb (mo_rg d k (lN X) u) 24 p' ∧ va16 p' 12 = X ^ (n + d) := by
  intro d
  induction d with
  | zero => intro k n u p hp hv _; exact ⟨p, hp, hv⟩
  | succ d ih =>
    intro k n u p hp hv hn
    have h5 : lb (mo_rc 12 0 (mo_rb 12 0 u)) 25 p := fun j hj => by
      rw [mo_rc_ne (by decide), mo_rb_at (k := 0) (fun j hj => absurd hj (by omega)) j (by omega)]
      exact hp j hj
    have h4 : lb (mo_rc 12 0 (mo_rb 12 0 u)) 24 (fun _ => 0) := fun j hj => by
      rw [mo_rc_at (k := 0) (fun j hj => absurd hj (by omega)) j (by omega)]
      exact ⟨rfl, (by decide : 0 < 65536)⟩
    obtain ⟨p', h1, h2⟩ := mo_rf_eq h4 h5 hX
    have z0 : va16 (fun _ => 0) 12 = 0 := by decide
    have hb : X * va16 p 12 = X ^ (n + 1) := by rw [hv, Nat.pow_succ, Nat.mul_comm]
    have hlt : X ^ (n + 1) < 65536 ^ 12 := by
      have : X ^ (n + 1) ≤ (2 ^ 38) ^ (n + 1) := Nat.pow_le_pow_left (by omega) _
      have h3 : (2 ^ 38) ^ (n + 1) ≤ (2 ^ 38) ^ 3 := Nat.pow_le_pow_right (by decide) (by omega)
      have h4 : (2 ^ 38) ^ 3 < 65536 ^ 12 := by decide
      omega
    have hl := va16_lt (f := p') (k := 12) (fun j hj => (h1 j hj).2)
    rw [z0, Nat.zero_add, hb, Nat.mod_eq_of_lt hl, Nat.mod_eq_of_lt hlt] at h2
    obtain ⟨p2, a1, a2⟩ := ih (k + 1) (n + 1) (mo_rf 3 0 (lN X) (mo_rc 12 0 (mo_rb 12 0 u))) p' h1 h2 (by omega)
    exact ⟨p2, a1, by rw [a2, show n + 1 + d = n + (d + 1) by omega]⟩
theorem mo_raise_eq {X t : Nat} {u : ww_U} (hX : X < 2 ^ 38) (ht : t ≤ 3) : ∃ p, lb (mo_raise (lN X) t u) 24 p ∧ va16 p 12 = X ^ t := by
  have h0 : lb (mo_ra 12 0 u) 24 (fun j => if j = 0 then 1 else 0) := fun j hj => by
    rw [mo_ra_at (k := 0) (fun j hj => absurd hj (by omega)) j (by omega)]
    dsimp only
    split
    · exact ⟨rfl, by decide⟩
    · exact ⟨rfl, by decide⟩
  obtain ⟨p, h1, h2⟩ := mo_rg_eq hX t 0 0 (mo_ra 12 0 u) _ h0 (by rw [Nat.pow_zero]; decide) (by omega)
  exact ⟨p, h1, by rw [h2, Nat.zero_add]⟩
/-! comparing from the top limb down -/
theorem mo_cmp_1 {d k t : Nat} {u : ww_U} {p e : Int32} : mo_cmp d k u p t 1 e = 1 := by
  induction d generalizing k e with
  | zero => rfl
  | succ d ih =>
    show mo_cmp d (k + 1) u p t (mo_cm u p t k 1 e) _ = 1
    rw [show mo_cm u p t k 1 e = 1 from if_neg (by decide)]
    exact ih
theorem mo_cmp_0 {d k t : Nat} {u : ww_U} {p : Int32} : mo_cmp d k u p t 0 1 = 0 := by
  induction d generalizing k with
  | zero => rfl
  | succ d ih =>
    show mo_cmp d (k + 1) u p t (mo_cm u p t k 0 1) (mo_ce u p t k 0 1) = 0
    rw [show mo_cm u p t k 0 1 = 0 from by unfold mo_cm; rw [if_pos rfl, if_neg (by decide)], show mo_ce u p t k 0 1 = 1 from if_neg (by decide)]
    exact ih
theorem mo_cmp_eq {t p0 : Nat} {u : ww_U} {P : Nat → Nat} (hP : lb u 24 P) (hp0 : p0 < 65536) : ∀ (d k : Nat), k + d = 12 → mo_cmp d k u (nI p0) t 0 0 = if va16 (fun j => if j = 2 * t then p0 else 0) d < va16 P d then 1 else 0 := by
  intro d
  induction d with
  | zero => intro k _; exact (if_neg (Nat.lt_irrefl 0)).symm
  | succ d ih =>
    intro k hk
    obtain ⟨h1, h2⟩ := hP d (by omega)
    have hQ : (if 11 - k = 2 * t then nI p0 else (0 : Int32)) = nI (if d = 2 * t then p0 else 0) := by
      rw [show 11 - k = d by omega]
      split <;> rfl
    have hq : (if d = 2 * t then p0 else 0) < 65536 := by split <;> omega
    have hlQ := va16_lt (f := fun j => if j = 2 * t then p0 else 0) (k := d) (fun j _ => by show (if _ then _ else _) < _; split <;> omega)
    have hlP := va16_lt (f := P) (k := d) (fun j hj => (hP j (by omega)).2)
    have eQ : va16 (fun j => if j = 2 * t then p0 else 0) (d + 1) = va16 (fun j => if j = 2 * t then p0 else 0) d + (if d = 2 * t then p0 else 0) * 65536 ^ d := rfl
    have eP : va16 P (d + 1) = va16 P d + P d * 65536 ^ d := rfl
    rw [eQ, eP]
    generalize hqe : (if d = 2 * t then p0 else 0) = qd at hQ hq ⊢
    generalize va16 (fun j => if j = 2 * t then p0 else 0) d = vQ at ih hlQ ⊢
    show mo_cmp d (k + 1) u (nI p0) t (mo_cm u (nI p0) t k 0 0) (mo_ce u (nI p0) t k 0 0) = _
    have hcm : mo_cm u (nI p0) t k 0 0 = if P d ≤ qd then 0 else 1 := by
      unfold mo_cm
      rw [if_pos rfl, if_pos rfl, hQ, show 11 - k = d by omega, h1]
      by_cases h : P d ≤ qd
      · rw [if_pos (nI_le h (by omega)), if_pos h]
      · rw [if_neg (nI_ge (by omega) (by omega)), if_neg h]
    have hce : mo_ce u (nI p0) t k 0 0 = if P d < qd then 1 else 0 := by
      unfold mo_ce
      rw [if_pos rfl, hcm, hQ, show 11 - k = d by omega, h1]
      by_cases h : P d < qd
      · rw [if_pos h, if_pos (show P d ≤ qd by omega), if_pos rfl, if_neg (nI_ge h (by omega))]
      · rw [if_neg h]
        by_cases h' : P d ≤ qd
        · rw [if_pos h', if_pos rfl, if_pos (nI_le (by omega) (by omega))]
        · rw [if_neg h', if_neg (by decide)]
    rw [hcm, hce]
    rcases Nat.lt_trichotomy (P d) qd with z | z | z
    · rw [if_pos (show P d ≤ qd by omega), if_pos z, mo_cmp_0, if_neg]
      have : (P d + 1) * 65536 ^ d ≤ qd * 65536 ^ d := Nat.mul_le_mul_right _ z
      rw [Nat.add_mul] at this
      omega
    · rw [if_pos (show P d ≤ qd by omega), if_neg (show ¬ P d < qd by omega), ih (k + 1) (by omega), z]
      by_cases h : vQ < va16 P d
      · rw [if_pos h, if_pos (by omega)]
      · rw [if_neg h, if_neg (by omega)]
    · rw [if_neg (show ¬ P d ≤ qd by omega), mo_cmp_1, if_pos]
      have : (qd + 1) * 65536 ^ d ≤ P d * 65536 ^ d := Nat.mul_le_mul_right _ z
      rw [Nat.add_mul] at this
      omega
