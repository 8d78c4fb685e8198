/-! the reference's roots: limbs of 16 bits -/
theorem lN_mask {n : Nat} (h : n < 2 ^ 62) : lN n &&& 65535 = lN (n % 65536) := by
  apply Int64.toBitVec_inj.mp
  apply BitVec.eq_of_toNat_eq
  show (BitVec.ofNat 64 n &&& 65535#64).toNat = (BitVec.ofNat 64 (n % 65536)).toNat
  rw [BitVec.toNat_and, show (65535#64).toNat = 2 ^ 16 - 1 from by decide, Nat.and_two_pow_sub_one_eq_mod, BitVec.toNat_ofNat, BitVec.toNat_ofNat]
  omega
def va16 (f : Nat → Nat) : Nat → Nat
  | 0 => 0
  | k + 1 => va16 f k + f k * 65536 ^ k
theorem va16_lt {f : Nat → Nat} {k : Nat} (h : ∀ j, j < k → f j < 65536) : va16 f k < 65536 ^ k := by
  induction k with
  | zero => exact Nat.one_pos
  | succ k ih =>
    have h1 := ih (fun j hj => h j (by omega))
    have h2 := h k (by omega)
    show va16 f k + f k * 65536 ^ k < 65536 ^ (k + 1)
    rw [Nat.pow_succ]
    have h3 : f k * 65536 ^ k ≤ 65535 * 65536 ^ k := Nat.mul_le_mul_right _ (by omega)
    omega
theorem va16_congr {f g : Nat → Nat} {k : Nat} (h : ∀ j, j < k → f j = g j) : va16 f k = va16 g k := by
  induction k with
  | zero => rfl
  | succ k ih => show va16 f k + f k * _ = va16 g k + g k * _; rw [ih (fun j hj => h j (by omega)), h k (by omega)]
theorem va16_up {f : Nat → Nat} {k i x : Nat} (hi : i < k) : va16 (fun j => if j = i then x else f j) k + f i * 65536 ^ i = va16 f k + x * 65536 ^ i := by
  induction k with
  | zero => omega
  | succ k ih =>
    show va16 _ k + (if k = i then x else f k) * 65536 ^ k + f i * 65536 ^ i = va16 f k + f k * 65536 ^ k + x * 65536 ^ i
    by_cases e : i = k
    · subst e
      rw [if_pos rfl, va16_congr (g := f) (fun j hj => by rw [if_neg (by omega)])]
      omega
    · have := ih (by omega)
      rw [if_neg (by omega)]
      omega
theorem va16_split {f : Nat → Nat} {a b : Nat} : ∃ q, va16 f (a + b) = va16 f a + q * 65536 ^ a := by
  induction b with
  | zero => exact ⟨0, by simp⟩
  | succ b ih =>
    obtain ⟨q, hq⟩ := ih
    refine ⟨q + f (a + b) * 65536 ^ b, ?_⟩
    show va16 f (a + b) + f (a + b) * 65536 ^ (a + b) = _
    rw [hq, Nat.pow_add, Nat.add_mul, Nat.mul_assoc, Nat.mul_comm (65536 ^ a) (65536 ^ b), Nat.add_assoc]
/-- the limbs of the cell k are p -/
def lb (u : ww_U) (k : Nat) (p : Nat → Nat) : Prop := ∀ j, j < 12 → u k j = nI (p j) ∧ p j < 65536
theorem mo_c1_eq {u : ww_U} {p o : Nat → Nat} {a k c X : Nat} (hp : lb u 24 p) (ho : lb u 25 o) (ha : a < 3) (hk : a + k < 12) (hc : c < 2 ^ 17) (hX : X < 2 ^ 38) : mo_c1 u (lN X) (lN c) a k = lN (c + p (a + k) + X / 2 ^ (16 * a) % 65536 * o k) := by
  unfold mo_c1
  obtain ⟨h1, h2⟩ := hp (a + k) hk
  obtain ⟨h3, h4⟩ := ho k (by omega)
  have e1 : (16 : Int32) * nI a = nI (16 * a) := pk_mul 16 a
  have e2 : lN X >>> ((nI (16 * a)).toInt64 &&& 63) = lN (X / 2 ^ (16 * a)) := pf_shr (by
    rcases (show a = 0 ∨ a = 1 ∨ a = 2 by omega) with rfl | rfl | rfl <;> decide) (by omega)
  have e3 := Nat.div_le_self X (2 ^ (16 * a))
  rw [h1, h3, nI_l (by omega), nI_l (by omega), e1, e2, lN_mask (by omega), lN_add, lN_mul, lN_add]
theorem mo_re_eq {d k a X c : Nat} {u : ww_U} {p o : Nat → Nat} (hp : lb u 24 p) (ho : lb u 25 o) (ha : a < 3) (hd : a + k + d = 12) (hc : c < 2 ^ 17) (hX : X < 2 ^ 38) :
    ∃ p' c', lb (mo_re d k a (lN X) (lN c) u) 24 p' ∧ va16 p' 12 + c' * 65536 ^ 12 + X / 2 ^ (16 * a) % 65536 * 65536 ^ a * va16 o k = va16 p 12 + c * 65536 ^ (a + k) + X / 2 ^ (16 * a) % 65536 * 65536 ^ a * va16 o (k + d) := by
  induction d generalizing k u p c with
  | zero => exact ⟨p, c, hp, by rw [show a + k = 12 by omega]; rfl⟩
  | succ d ih =>
    have e1 := mo_c1_eq hp ho ha (by omega) hc hX (k := k)
    obtain ⟨h1, h2⟩ := hp (a + k) (by omega)
    obtain ⟨h3, h4⟩ := ho k (by omega)
    have hxa := Nat.mod_lt (X / 2 ^ (16 * a)) (show 65536 > 0 by decide)
    generalize hxe : X / 2 ^ (16 * a) % 65536 = xa at e1 hxa ⊢
    have hpr : xa * o k ≤ 65535 * 65535 := Nat.mul_le_mul (by omega) (by omega)
    have hCs : c + p (a + k) + xa * o k < 2 ^ 33 := by omega
    have e2 : lN (c + p (a + k) + xa * o k) >>> ((16 : Int32).toInt64 &&& 63) = lN ((c + p (a + k) + xa * o k) / 2 ^ 16) := pf_shr (by decide) (by omega)
    have e3 : (lN (c + p (a + k) + xa * o k) &&& 65535).toInt32 = nI ((c + p (a + k) + xa * o k) % 65536) := by rw [lN_mask (by omega), lN_i]
    have hst : mo_re (d + 1) k a (lN X) (lN c) u = mo_re d (k + 1) a (lN X) (lN ((c + p (a + k) + xa * o k) / 2 ^ 16)) (ww_up u 24 (a + k) (nI ((c + p (a + k) + xa * o k) % 65536))) := by
      show mo_re d (k + 1) a (lN X) _ _ = _
      rw [e1, e2, e3]
    have hp' : lb (ww_up u 24 (a + k) (nI ((c + p (a + k) + xa * o k) % 65536))) 24 (fun j => if j = a + k then (c + p (a + k) + xa * o k) % 65536 else p j) := by
      intro j hj
      rw [ww_up_at]
      dsimp only
      split
      · exact ⟨rfl, Nat.mod_lt _ (by decide)⟩
      · exact hp j hj
    have ho' : lb (ww_up u 24 (a + k) (nI ((c + p (a + k) + xa * o k) % 65536))) 25 o := by
      intro j hj
      rw [ww_up_ne (by decide)]
      exact ho j hj
    obtain ⟨p', c', q1, q2⟩ := ih hp' ho' (k := k + 1) (c := (c + p (a + k) + xa * o k) / 2 ^ 16) (by omega) (by omega)
    refine ⟨p', c', by rw [hst]; exact q1, ?_⟩
    rw [hxe] at q2
    have hv := va16_up (f := p) (k := 12) (i := a + k) (x := (c + p (a + k) + xa * o k) % 65536) (by omega)
    have ev : va16 o (k + 1) = va16 o k + o k * 65536 ^ k := rfl
    rw [ev, show k + 1 + d = k + (d + 1) by omega, show a + (k + 1) = (a + k) + 1 by omega, show 65536 ^ (a + k + 1) = 65536 ^ (a + k) * 65536 from Nat.pow_succ ..] at q2
    have hm : (c + p (a + k) + xa * o k) / 2 ^ 16 * (65536 ^ (a + k) * 65536) + (c + p (a + k) + xa * o k) % 65536 * 65536 ^ (a + k) = (c + p (a + k) + xa * o k) * 65536 ^ (a + k) := by
      rw [Nat.mul_comm (65536 ^ (a + k)) 65536, ← Nat.mul_assoc, ← Nat.add_mul]
      congr 1
      omega
    have hx1 : xa * 65536 ^ a * (va16 o k + o k * 65536 ^ k) = xa * 65536 ^ a * va16 o k + xa * o k * 65536 ^ (a + k) := by
      rw [Nat.mul_add, Nat.pow_add]
      congr 1
      ac_rfl
    have hx2 : (c + p (a + k) + xa * o k) * 65536 ^ (a + k) = c * 65536 ^ (a + k) + p (a + k) * 65536 ^ (a + k) + xa * o k * 65536 ^ (a + k) := by
      rw [Nat.add_mul, Nat.add_mul]
    rw [hx1] at q2
    omega
