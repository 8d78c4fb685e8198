/-! the reference's roots are the class's tables -/
def rtN : Nat → Nat → Nat → Nat → Nat → Nat
  | 0, _, _, _, X => X
  | d + 1, k, p, t, X => rtN d (k + 1) p t (if (X + 2 ^ (37 - k)) ^ t ≤ p * 65536 ^ (2 * t) then X + 2 ^ (37 - k) else X)
theorem lN_or {a b : Nat} (ha : a < 2 ^ 62) (hb : b < 2 ^ 62) : lN a ||| lN b = lN (a ||| b) := by
  apply Int64.toBitVec_inj.mp
  apply BitVec.eq_of_toNat_eq
  show (BitVec.ofNat 64 a ||| BitVec.ofNat 64 b).toNat = (BitVec.ofNat 64 (a ||| b)).toNat
  have h := Nat.or_lt_two_pow ha hb
  rw [BitVec.toNat_or, BitVec.toNat_ofNat, BitVec.toNat_ofNat, BitVec.toNat_ofNat, Nat.mod_eq_of_lt (by omega), Nat.mod_eq_of_lt (by omega), Nat.mod_eq_of_lt (by omega)]
theorem mo_sh1 : ∀ k, k < 38 → (1 : Int64) <<< ((nI (37 - k)).toInt64 &&& 63) = lN (2 ^ (37 - k)) := by decide
theorem mo_try_eq {X a k : Nat} (hk : k < 38) (hX : X = 2 ^ (38 - k) * a) (hl : X < 2 ^ 38) : mo_try (lN X) k = lN (X + 2 ^ (37 - k)) := by
  unfold mo_try
  have e1 : 2 ^ (37 - k) < 2 ^ 38 := Nat.pow_lt_pow_right (by decide) (by omega)
  rw [mo_sh1 k hk, lN_or (by omega) (by omega)]
  have e2 : 2 ^ (37 - k) < 2 ^ (38 - k) := Nat.pow_lt_pow_right (by decide) (by omega)
  have e3 := Nat.two_pow_add_eq_or_of_lt e2 a
  rw [hX, e3]
theorem va16_one {p0 t : Nat} (ht : 2 * t < 12) : va16 (fun j => if j = 2 * t then p0 else 0) 12 = p0 * 65536 ^ (2 * t) := by
  have h0 : ∀ k, k ≤ 2 * t → va16 (fun j => if j = 2 * t then p0 else 0) k = 0 := by
    intro k
    induction k with
    | zero => intro _; rfl
    | succ k ih =>
      intro hk
      show va16 _ k + (if k = 2 * t then p0 else 0) * _ = 0
      rw [ih (by omega), if_neg (by omega), Nat.zero_mul]
  have h1 : ∀ k, 2 * t + 1 + k ≤ 12 → va16 (fun j => if j = 2 * t then p0 else 0) (2 * t + 1 + k) = p0 * 65536 ^ (2 * t) := by
    intro k
    induction k with
    | zero =>
      intro hk
      show va16 _ (2 * t) + (if 2 * t = 2 * t then p0 else 0) * _ = _
      rw [h0 _ (Nat.le_refl _), if_pos rfl, Nat.zero_add]
    | succ k ih =>
      intro hk
      show va16 _ (2 * t + 1 + k) + (if 2 * t + 1 + k = 2 * t then p0 else 0) * _ = _
      rw [ih (by omega), if_neg (by omega), Nat.zero_mul, Nat.add_zero]
  have h2 := h1 (11 - 2 * t) (by omega)
  rw [show 2 * t + 1 + (11 - 2 * t) = 12 by omega] at h2
  exact h2
theorem mo_rt_eq {p0 t : Nat} (hp0 : p0 < 65536) (ht : t ≤ 3) : ∀ (d k X a : Nat) (u : ww_U), k + d = 38 → X = 2 ^ (38 - k) * a → X + 2 ^ (38 - k) ≤ 2 ^ 38 →
    (mo_rt d k (nI p0) t (lN X) u).2 = lN (rtN d k p0 t X) ∧ ∀ b, b ≠ 24 → b ≠ 25 → (mo_rt d k (nI p0) t (lN X) u).1 b = u b := by
  intro d
  induction d with
  | zero => intro k X a u _ _ _; exact ⟨rfl, fun _ _ _ => rfl⟩
  | succ d ih =>
    intro k X a u hk hX hl
    have e2 : 2 ^ (38 - k) = 2 * 2 ^ (37 - k) := by rw [show 38 - k = (37 - k) + 1 by omega, Nat.pow_succ, Nat.mul_comm]
    have hpos : 0 < 2 ^ (37 - k) := Nat.pow_pos (by decide)
    have ey := mo_try_eq (show k < 38 by omega) hX (by omega)
    have hst : mo_rt (d + 1) k (nI p0) t (lN X) u = mo_rt d (k + 1) (nI p0) t (if mo_cmp 12 0 (mo_raise (mo_try (lN X) k) t u) (nI p0) t 0 0 = 0 then mo_try (lN X) k else lN X) (mo_raise (mo_try (lN X) k) t u) := rfl
    obtain ⟨P, hP, hv⟩ := mo_raise_eq (X := X + 2 ^ (37 - k)) (t := t) (u := u) (by omega) ht
    have hc := mo_cmp_eq hP hp0 12 0 rfl (t := t)
    rw [va16_one (by omega), hv] at hc
    rw [hst, ey, hc]
    have hrs : rtN (d + 1) k p0 t X = rtN d (k + 1) p0 t (if (X + 2 ^ (37 - k)) ^ t ≤ p0 * 65536 ^ (2 * t) then X + 2 ^ (37 - k) else X) := rfl
    rw [hrs]
    generalize (X + 2 ^ (37 - k)) ^ t = Yt
    generalize p0 * 65536 ^ (2 * t) = Qt
    have hnx : 38 - (k + 1) = 37 - k := by omega
    by_cases h : Yt ≤ Qt
    · rw [if_pos h, if_neg (show ¬ Qt < Yt by omega), if_pos rfl]
      obtain ⟨q1, q2⟩ := ih (k + 1) (X + 2 ^ (37 - k)) (2 * a + 1) (mo_raise (lN (X + 2 ^ (37 - k))) t u) (by omega) (by rw [hnx, hX, e2]; generalize 2 ^ (37 - k) = z; rw [Nat.mul_add, Nat.mul_one, ← Nat.mul_assoc, Nat.mul_comm z 2]) (by rw [hnx]; omega)
      exact ⟨q1, fun b h4 h5 => by rw [q2 b h4 h5, mo_raise_ne h4 h5]⟩
    · rw [if_neg h, if_pos (show Qt < Yt by omega), if_neg (by decide)]
      obtain ⟨q1, q2⟩ := ih (k + 1) X (2 * a) (mo_raise (lN (X + 2 ^ (37 - k))) t u) (by omega) (by rw [hnx, hX, e2]; generalize 2 ^ (37 - k) = z; rw [← Nat.mul_assoc, Nat.mul_comm z 2]) (by rw [hnx]; omega)
      exact ⟨q1, fun b h4 h5 => by rw [q2 b h4 h5, mo_raise_ne h4 h5]⟩
theorem mo_rt_0 {p0 t : Nat} {u : ww_U} (hp0 : p0 < 65536) (ht : t ≤ 3) : (mo_rt 38 0 (nI p0) t 0 u).2.toInt32 = nI (rtN 38 0 p0 t 0) ∧ ∀ b, b ≠ 24 → b ≠ 25 → (mo_rt 38 0 (nI p0) t 0 u).1 b = u b := by
  obtain ⟨h1, h2⟩ := mo_rt_eq hp0 ht 38 0 0 0 u rfl rfl (Nat.le_of_eq (by rw [Nat.zero_add]))
  refine ⟨?_, h2⟩
  have h3 : (mo_rt 38 0 (nI p0) t 0 u).2 = lN (rtN 38 0 p0 t 0) := h1
  rw [h3, lN_i]
def rt_chk : Nat → Nat → Nat → Bool
  | 0, _, c => c == 64
  | d + 1, k, c => if mo_isP k then (nI (rtN 38 0 k 3 0) == ww_cu c) && (decide (8 ≤ c) || (nI (rtN 38 0 k 2 0) == ww_sq c)) && rt_chk d (k + 1) (c + 1) else rt_chk d (k + 1) c
theorem rt_chk_ok : rt_chk 310 2 0 = true := by decide +kernel
theorem mo_ini_ok : ∀ (d k c : Nat) (u : ww_U), rt_chk d k c = true → mo_pc k = c → 2 ≤ k → k + d = 312 → (∀ t, t < c → t < 8 → u 22 t = ww_sq t) → (∀ t, t < c → u 23 t = ww_cu t) → (∀ b j, b ≠ 22 → b ≠ 23 → b ≠ 24 → b ≠ 25 → u b j = 0) →
    (∀ t, t < 8 → mo_ini d k u 22 t = ww_sq t) ∧ (∀ t, t < 64 → mo_ini d k u 23 t = ww_cu t) ∧ (∀ b j, b ≠ 22 → b ≠ 23 → b ≠ 24 → b ≠ 25 → mo_ini d k u b j = 0) := by
  intro d
  induction d with
  | zero =>
    intro k c u hk hc _ _ h2 h3 h0
    have hc64 : c = 64 := eq_of_beq hk
    subst hc64
    exact ⟨fun t ht => h2 t (by omega) ht, h3, h0⟩
  | succ d ih =>
    intro k c u hk hc hk2 hkd h2 h3 h0
    have hk' : (if mo_isP k then (nI (rtN 38 0 k 3 0) == ww_cu c) && (decide (8 ≤ c) || (nI (rtN 38 0 k 2 0) == ww_sq c)) && rt_chk d (k + 1) (c + 1) else rt_chk d (k + 1) c) = true := hk
    have hpc : mo_pc (k + 1) = if decide (2 ≤ k) && mo_isP k then mo_pc k + 1 else mo_pc k := rfl
    have hin : mo_ini (d + 1) k u = mo_ini d (k + 1) (if mo_isP k then mo_i2 (mo_i1 u k) k else u) := rfl
    rw [hin]
    rw [decide_eq_true hk2, Bool.true_and, hc] at hpc
    cases hP : mo_isP k with
    | false =>
      rw [hP] at hk' hpc
      exact ih (k + 1) c u hk' hpc (by omega) (by omega) h2 h3 h0
    | true =>
      rw [hP] at hk' hpc
      rw [if_pos rfl] at hk'
      rw [Bool.and_eq_true, Bool.and_eq_true, Bool.or_eq_true] at hk'
      obtain ⟨⟨hcu, hsq⟩, hnx⟩ := hk'
      have hcu' := eq_of_beq hcu
      have hkl : k < 65536 := by omega
      have g3 : ∀ v : ww_U, (mo_rt 38 0 (nI k) 3 0 v).2.toInt32 = ww_cu c := fun v => (mo_rt_0 hkl (by decide)).1.trans hcu'
      have f3 : ∀ v : ww_U, ∀ b, b ≠ 24 → b ≠ 25 → (mo_rt 38 0 (nI k) 3 0 v).1 b = v b := fun v => (mo_rt_0 hkl (by decide)).2
      have g2 : ∀ v : ww_U, (mo_rt 38 0 (nI k) 2 0 v).2.toInt32 = nI (rtN 38 0 k 2 0) := fun v => (mo_rt_0 hkl (by decide)).1
      have f2 : ∀ v : ww_U, ∀ b, b ≠ 24 → b ≠ 25 → (mo_rt 38 0 (nI k) 2 0 v).1 b = v b := fun v => (mo_rt_0 hkl (by decide)).2
      have i1 : ∀ b j, b ≠ 24 → b ≠ 25 → mo_i1 u k b j = if b = 22 ∧ j = c ∧ c < 8 then ww_sq c else u b j := by
        intro b j h4 h5
        unfold mo_i1
        rw [hc]
        by_cases h8 : c < 8
        · rw [if_pos h8]
          have hsq' : nI (rtN 38 0 k 2 0) = ww_sq c := by
            rcases hsq with z | z
            · exact absurd (of_decide_eq_true z) (by omega)
            · exact eq_of_beq z
          by_cases hb : b = 22
          · subst hb
            rw [ww_up_at, f2 _ _ h4 h5, g2, hsq']
            by_cases hj : j = c
            · rw [if_pos hj, if_pos ⟨rfl, hj, h8⟩]
            · rw [if_neg hj, if_neg (fun z => hj z.2.1)]
          · rw [ww_up_ne hb, f2 _ _ h4 h5, if_neg (fun z => hb z.1)]
        · rw [if_neg h8, if_neg (fun z => h8 z.2.2)]
      have i2 : ∀ b j, b ≠ 24 → b ≠ 25 → mo_i2 (mo_i1 u k) k b j = if b = 23 ∧ j = c then ww_cu c else mo_i1 u k b j := by
        intro b j h4 h5
        unfold mo_i2
        rw [hc]
        by_cases hb : b = 23
        · subst hb
          rw [ww_up_at, f3 _ _ h4 h5, g3]
          by_cases hj : j = c
          · rw [if_pos hj, if_pos ⟨rfl, hj⟩]
          · rw [if_neg hj, if_neg (fun z => hj z.2)]
        · rw [ww_up_ne hb, f3 _ _ h4 h5, if_neg (fun z => hb z.1)]
      rw [if_pos rfl]
      refine ih (k + 1) (c + 1) _ hnx hpc (by omega) (by omega) ?_ ?_ ?_
      · intro t ht h8
        rw [i2 22 t (by decide) (by decide), if_neg (fun z => absurd z.1 (by decide)), i1 22 t (by decide) (by decide)]
        by_cases e : t = c
        · rw [if_pos ⟨rfl, e, by omega⟩, e]
        · rw [if_neg (fun z => e z.2.1)]; exact h2 t (by omega) h8
      · intro t ht
        rw [i2 23 t (by decide) (by decide)]
        by_cases e : t = c
        · rw [if_pos ⟨rfl, e⟩, e]
        · rw [if_neg (fun z => e z.2), i1 23 t (by decide) (by decide), if_neg (fun z => absurd z.1 (by decide))]; exact h3 t (by omega)
      · intro b j b2 b3 b4 b5
        rw [i2 b j b4 b5, if_neg (fun z => b3 z.1), i1 b j b4 b5, if_neg (fun z => b2 z.1)]
        exact h0 b j b2 b3 b4 b5
theorem mo_u0_ok : (∀ t, t < 8 → mo_u0 22 t = ww_sq t) ∧ (∀ t, t < 64 → mo_u0 23 t = ww_cu t) ∧ (∀ b j, b ≠ 22 → b ≠ 23 → b ≠ 24 → b ≠ 25 → mo_u0 b j = 0) :=
  mo_ini_ok 310 2 0 _ rt_chk_ok rfl (by decide) rfl (fun t ht => absurd ht (by omega)) (fun t ht => absurd ht (by omega)) (fun _ _ _ _ _ _ => rfl)
