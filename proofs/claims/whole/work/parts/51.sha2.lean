/-! lN under >> and >>>, out of kit/laws/BITS.to-paste -/
theorem pf_lI {a : Nat} (h : a < 2 ^ 63) : (lN a).toInt = (a : Int) := lg_ofNat_toInt h
theorem pf_shr {a d : Nat} {D : Int64} (hD : (D.toBitVec.smod 64).toNat = d) (h : a < 2 ^ 62) : lN a >>> D = lN (a / 2 ^ d) := by
  have hd : a / 2 ^ d ≤ a := Nat.div_le_self _ _
  apply Int64.toInt_inj.mp
  have e : (lN a >>> D).toInt = (lN a).toInt >>> d := by
    rw [← hD]
    exact BitVec.toInt_sshiftRight ..
  rw [e, Int.shiftRight_eq_div_pow, pf_lI (by omega), pf_lI (by omega)]
  rfl
theorem pf_ushr {a d : Nat} {D : UInt64} (hD : D.toNat % 64 = d) (h : a < 2 ^ 62) : ((lN a).toUInt64 >>> D).toInt64 = lN (a / 2 ^ d) := by
  have hd : a / 2 ^ d ≤ a := Nat.div_le_self _ _
  have e : (lN a).toUInt64 >>> D = UInt64.ofNat (a / 2 ^ d) := UInt64.toNat_inj.mp (by
    rw [UInt64.toNat_shiftRight, hD, Nat.shiftRight_eq_div_pow, UInt64.toNat_ofNat']
    show (UInt64.ofNat a).toNat / 2 ^ d = _
    rw [UInt64.toNat_ofNat', Nat.mod_eq_of_lt (by omega), Nat.mod_eq_of_lt (by omega)])
  rw [e]
  rfl
theorem cl_shr_eq {a : Nat} (h : a < 2 ^ 62) : cl_shr (lN a) = lN (a / 256) := pf_ushr (d := 8) (by decide) h
/-! what comes behind the octets, in octets -/
def sh_pd (o : Nat → Nat) (m T j : Nat) : Nat := if j < m then o j else if j = m then 128 else if T - 1 - j < 4 then 8 * m / 256 ^ (T - 1 - j) % 256 else 0
theorem sh_pd_lt {o : Nat → Nat} {m T j : Nat} (ho : ∀ j, j < m → o j < 256) : sh_pd o m T j < 256 := by
  unfold sh_pd
  (repeat' split)
  · exact ho j (by assumption)
  · decide
  · exact Nat.mod_lt _ (by decide)
  · decide
theorem by255 (x : Int32) : vp_nar .byte x &&& 255 = nI (x.toBitVec.toNat % 256) := by
  rw [vp_nar_byte, bp_b]
  exact pk_and x 8 (by decide)
theorem cl_lay_at {d k m : Nat} {u : ww_U} : ∀ j, cl_lay d k m u 33 j = if k ≤ j ∧ j < k + d then vp_nar .byte (if j < m then u 31 j else 0) else u 33 j := by
  induction d generalizing k u with
  | zero => intro j; rw [if_neg (by omega)]; rfl
  | succ d ih =>
    intro j
    show cl_lay d (k + 1) m _ 33 j = _
    rw [ih j, ww_up_ne (show (31 : Nat) ≠ 33 by decide), ww_up_at]
    by_cases e : j = k
    · subst e
      rw [if_neg (by omega), if_pos rfl, if_pos (show j ≤ j ∧ j < j + (d + 1) by omega)]
    · rw [if_neg e]
      by_cases h : k + 1 ≤ j ∧ j < k + 1 + d
      · rw [if_pos h, if_pos (show k ≤ j ∧ j < k + (d + 1) by omega)]
      · rw [if_neg h, if_neg (by omega)]
theorem cl_bits_at {d k T n : Nat} {u : ww_U} (hn : n < 2 ^ 62) (hT : k + d ≤ T + 1) (hk : 1 ≤ k) : ∀ j, j < T → cl_bits d k T (lN n) u 33 j = if k ≤ T - j ∧ T - j < k + d then vp_nar .byte (lN (n / 256 ^ (T - j - k))).toInt32.toInt8.toInt32 else u 33 j := by
  induction d generalizing k n u with
  | zero => intro j hj; rw [if_neg (by omega)]; rfl
  | succ d ih =>
    intro j hj
    show cl_bits d (k + 1) T (cl_shr (lN n)) _ 33 j = _
    rw [cl_shr_eq hn, ih (Nat.lt_of_le_of_lt (Nat.div_le_self _ _) hn) (by omega) (by omega) j hj, ww_up_at]
    by_cases e : j = T - k
    · rw [if_neg (by omega), if_pos e, if_pos (by omega), show T - j - k = 0 by omega, Nat.pow_zero, Nat.div_one]
    · rw [if_neg e]
      by_cases h : k + 1 ≤ T - j ∧ T - j < k + 1 + d
      · rw [if_pos h, if_pos (by omega), Nat.div_div_eq_div_mul, ← Nat.pow_succ', show (T - j - (k + 1)).succ = T - j - k by omega]
      · rw [if_neg h, if_neg (by omega)]
theorem nI_bv {n : Nat} (h : n < 2 ^ 32) : (nI n).toBitVec.toNat = n := pk_tn h
/-- the message that the class lays out -/
theorem cl_byte {m : Nat} {v : ww_U} (hm : m ≤ 256) : ∀ j, j < cl_T m → cl_layOut m v 33 j &&& 255 = nI (sh_pd (fun j => (v 31 j).toBitVec.toNat % 256) m (cl_T m) j) := by
  intro j hj
  have hT : cl_T m = (m + 8 + 64) / 64 * 64 := rfl
  unfold cl_layOut
  have h8 : (8 : Int64) * (nI m).toInt64 = lN (8 * m) := by
    rw [nI_l (by omega)]
    exact lN_mul 8 m
  rw [h8, cl_bits_at (by omega) (by omega) (by omega) j hj, ww_up_at, cl_lay_at]
  unfold sh_pd
  by_cases hb : 1 ≤ cl_T m - j ∧ cl_T m - j < 1 + 8
  · rw [if_pos hb, if_neg (by omega), if_neg (by omega)]
    have hi : cl_T m - j - 1 = cl_T m - 1 - j := by omega
    rw [hi, by255, lN_i]
    have hq : 8 * m / 256 ^ (cl_T m - 1 - j) ≤ 8 * m := Nat.div_le_self _ _
    have e1 : (nI (8 * m / 256 ^ (cl_T m - 1 - j))).toInt8.toInt32.toBitVec.toNat % 256 = 8 * m / 256 ^ (cl_T m - 1 - j) % 256 := by
      have h1 := by255 (nI (8 * m / 256 ^ (cl_T m - 1 - j))).toInt8.toInt32
      rw [vp_nar_byte, bp_b, bp_b, pk_and _ 8 (by decide), nI_bv (by omega)] at h1
      have h2 := congrArg (fun z : Int32 => z.toBitVec.toNat) h1
      rw [nI_bv (by have := Nat.mod_lt (8 * m / 256 ^ (cl_T m - 1 - j)) (show 2 ^ 8 > 0 by decide); omega), nI_bv (by have := Nat.mod_lt ((nI (8 * m / 256 ^ (cl_T m - 1 - j))).toInt8.toInt32.toBitVec.toNat) (show 256 > 0 by decide); omega)] at h2
      exact h2.symm
    rw [e1]
    by_cases h4 : cl_T m - 1 - j < 4
    · rw [if_pos h4]
    · rw [if_neg h4]
      have hz : 8 * m / 256 ^ (cl_T m - 1 - j) = 0 := by
        apply Nat.div_eq_of_lt
        have : 256 ^ 4 ≤ 256 ^ (cl_T m - 1 - j) := Nat.pow_le_pow_right (by decide) (by omega)
        omega
      rw [hz]
  · rw [if_neg hb]
    by_cases hjm : j = m
    · subst hjm
      rw [if_pos rfl, if_neg (by omega), if_pos rfl, by255]
      decide
    · rw [if_neg hjm, if_pos (by omega), by255]
      by_cases hl : j < m
      · rw [if_pos hl, if_pos hl]
      · rw [if_neg hl, if_neg hl, if_neg hjm, if_neg (by omega)]
        decide
/-- the octets that the reference reads -/
theorem mo_byte {m p j T : Nat} {u : ww_U} {o : Nat → Nat} (hm : m ≤ 256) (hT : T ≤ 320) (ho : ∀ j, j < m → u 19 (256 * p + j) = nI (o j)) : mo_pad u p m j T = nI (sh_pd o m T j) := by
  unfold mo_pad sh_pd
  by_cases hl : j < m
  · rw [if_pos hl, if_pos hl, ho j hl]
  · rw [if_neg hl, if_neg hl]
    by_cases he : j = m
    · rw [if_pos he, if_pos he]; rfl
    · rw [if_neg he, if_neg he]
      by_cases h4 : T - 1 - j < 4
      · rw [if_pos h4, if_pos h4]
        have e8 : (8 : Int32) * nI m = nI (8 * m) := pk_mul 8 m
        have eb : (8 : Int32) * nI (T - 1 - j) = nI (8 * (T - 1 - j)) := pk_mul 8 (T - 1 - j)
        rw [e8, eb, pk_shrN (by omega) (nI (8 * (T - 1 - j)) &&& 31) (8 * (T - 1 - j)) (by
          rcases (show T - 1 - j = 0 ∨ T - 1 - j = 1 ∨ T - 1 - j = 2 ∨ T - 1 - j = 3 by omega) with e | e | e | e <;> rw [e] <;> decide), pk_andN (by have := Nat.div_le_self (8 * m) (2 ^ (8 * (T - 1 - j))); omega) 8 (by decide)]
        rw [Nat.pow_mul]
      · rw [if_neg h4, if_neg h4]; rfl
