/-! a new package -/
theorem mo_dl_at : ∀ (d k : Nat) (u : ww_U) (j : Nat), mo_dl d k u 21 j = if k ≤ j ∧ j < k + d then mo_ob u j else u 21 j
  | 0, k, u, j => by rw [if_neg (by omega)]; rfl
  | d + 1, k, u, j => by
    simp only [mo_dl]
    have e : mo_ob (ww_up u 21 k (mo_ob u k)) j = mo_ob u j := by unfold mo_ob; rw [ww_n (by omega)]
    rw [mo_dl_at d (k + 1), e]
    rcases Decidable.em (k + 1 ≤ j ∧ j < k + 1 + d) with h | h
    · rw [if_pos h, if_pos (by omega)]
    · rw [if_neg h]
      rcases Decidable.em (j = k) with f | f
      · subst f; rw [ww_e rfl rfl, if_pos (by omega)]
      · rw [ww_n (by omega), if_neg (by omega)]
theorem mo_cp_at {p : Nat} : ∀ (d k : Nat) (u : ww_U) (a c : Nat), mo_cp d k p u a c = if a = 19 ∧ 256 * p + k ≤ c ∧ c < 256 * p + k + d then u 20 (c - 256 * p) else u a c
  | 0, k, u, a, c => by rw [if_neg (by omega)]; rfl
  | d + 1, k, u, a, c => by
    simp only [mo_cp]
    rw [mo_cp_at d (k + 1), ww_n (a := 20) (by omega)]
    rcases Decidable.em (a = 19 ∧ 256 * p + (k + 1) ≤ c ∧ c < 256 * p + (k + 1) + d) with h | h
    · rw [if_pos h, if_pos (by omega)]
    · rw [if_neg h]
      rcases Decidable.em (a = 19 ∧ c = 256 * p + k) with f | f
      · rw [ww_e f.1 f.2, if_pos (by omega), f.2, show 256 * p + k - 256 * p = k by omega]
      · rw [ww_n (by omega), if_neg (by omega)]
theorem cu_begin_at {i : Nat} : ∀ (d k : Nat) (v : ww_U) (a c : Nat), cu_begin d k i v a c = if a = kQ i ∧ k ≤ c ∧ c < k + d then (v 31 c).toInt8.toInt32 else v a c
  | 0, k, v, a, c => by rw [if_neg (by omega)]; rfl
  | d + 1, k, v, a, c => by
    simp only [cu_begin]
    rw [cu_begin_at d (k + 1), ww_n (a := 31) (by simp only [kQ]; omega)]
    rcases Decidable.em (a = kQ i ∧ k + 1 ≤ c ∧ c < k + 1 + d) with h | h
    · rw [if_pos h, if_pos (by omega)]
    · rw [if_neg h]
      rcases Decidable.em (a = kQ i ∧ c = k) with f | f
      · rw [ww_e f.1 f.2, if_pos (by omega), f.2]; rfl
      · rw [ww_n (by omega), if_neg (by omega)]
theorem and8 {y z : Int32} (h : y &&& 255 = z &&& 255) : y.toInt8 = z.toInt8 := by
  have e : ∀ w : Int32, (w &&& 255).toInt8 = w.toInt8 := fun w => by rw [Int32.toInt8_and, show (255 : Int32).toInt8 = -1 from rfl, Int8.and_neg_one]
  rw [← e y, ← e z, h]
theorem b_255 : ∀ i, i < 32 → 8 ≤ i → bt 255 i = false := by decide +kernel
theorem sh_bits {x : Int32} {D : UInt32} {E : Int32} {s : Nat} (hs : s ≤ 24) (hD : (D.toBitVec % 32).toNat = s) (hE : (E.toBitVec.smod 32).toNat = s) : (x.toUInt32 >>> D).toInt32 &&& 255 = (x >>> E) &&& 255 := by
  refine b_ext (fun i hi => ?_)
  rw [b_and, b_and]
  rcases Nat.lt_or_ge i 8 with c | c
  · have e1 : bt (x.toUInt32 >>> D).toInt32 i = x.toBitVec.getLsbD (s + i) := by
      unfold bt
      show (x.toUInt32 >>> D).toBitVec.getLsbD i = _
      rw [UInt32.toBitVec_shiftRight]
      show (x.toBitVec >>> (D.toBitVec % 32)).getLsbD i = _
      rw [BitVec.ushiftRight_eq', hD, BitVec.getLsbD_ushiftRight]
    have e2 : bt (x >>> E) i = x.toBitVec.getLsbD (s + i) := by
      unfold bt
      rw [Int32.toBitVec_shiftRight, BitVec.sshiftRight_eq', hE, BitVec.getLsbD_sshiftRight]
      have : ¬ 32 ≤ i := by omega
      have h2 : s + i < 32 := by omega
      simp [this, h2]
    rw [e1, e2]
  · rw [b_255 i hi c, Bool.and_false, Bool.and_false]
theorem sh_s1 : ∀ i, i < 32 → ((((24 - 8 * (nI i &&& 3) : Int32).toUInt32 &&& Int32.toUInt32 31).toBitVec % 32).toNat = 24 - 8 * (i % 4)) := by decide +kernel
theorem sh_s2 : ∀ i, i < 32 → ((((8 * (3 - (nI i - nI i / 4 * 4))) &&& 31 : Int32).toBitVec.smod 32).toNat = 24 - 8 * (i % 4)) := by decide +kernel
theorem ob_eq {V U : ww_U} {i : Nat} (hi : i < 32) (h : V 35 (i / 4) = U 26 (i / 4)) : cl_oct V i = (mo_ob U i).toInt8.toInt32 := by
  unfold cl_oct mo_ob
  rw [h]
  refine congrArg Int8.toInt32 (and8 ?_)
  rw [sh_bits (s := 24 - 8 * (i % 4)) (by omega) (sh_s1 i hi) (sh_s2 i hi)]
  refine b_ext (fun k hk => ?_)
  rw [b_and, b_and, b_and]
  cases bt 255 k <;> simp
theorem hw_and : ∀ h, h < 128 → nI h &&& 255 = nI h ∧ (nI h).toInt8.toInt32 = nI h := by decide +kernel
theorem hw_eq {x : Int32} {h : Nat} (hx : x.toInt8.toInt32 = x) (hh : h ≤ 127) : x = nI h ↔ x &&& 255 = nI h := by
  have z := hw_and h (by omega)
  refine ⟨fun e => by rw [e]; exact z.1, fun e => ?_⟩
  have y := i8_and x.toInt8
  rw [hx, e, z.2] at y
  exact y.symm
theorem rf_eq {n P j : Nat} {v u : ww_U} {g : Nat → Nat → Nat} (h : Rg n P v u g) (hj : j < n) (ed z : Int32) : cu_refuse v j ed z = mo_refuse u (j + 1) ed z := by
  have hn := Rg_n h
  obtain ⟨⟨_, _, t1, t2, t3, t4⟩, ⟨g0, g1, g2, g3, g4⟩, _, _⟩ := h.2.1
  obtain ⟨⟨hw, w1, w2, w3, w4⟩, ta4, _⟩ := (h.2.2.2.2.2 j hj).1
  have se := st_eq h hj
  unfold cu_refuse mo_refuse
  rw [← se, t3, t4, g2, g3, w3, w4, ta4]
  by_cases c1 : ed < 1
  · rw [if_pos c1, if_pos c1]
  · rw [if_neg c1, if_neg c1]
    by_cases c2 : 1000 < ed
    · rw [if_pos c2, if_pos c2]
    · rw [if_neg c2, if_neg c2]
      by_cases c3 : nI g0 = 0
      · rw [if_pos c3, if_pos c3]
      · rw [if_neg c3, if_neg c3]
        have g0p : 0 < g0 := Nat.pos_of_ne_zero (fun e => c3 (by rw [e]; rfl))
        obtain ⟨b1, b2⟩ := g4 0 g0p
        have key : (if nI P < 60 then (if z = 0 then (-5 : Int32) else if v 31 0 = nI hw then (if u 3 (j + 1) < ed then 0 else -7) else -6) else -4) = (if nI P = 60 then -4 else if z = 0 then -5 else if u 20 0 = nI hw then (if u 3 (j + 1) < ed then 0 else -7) else -6) := by
          have e : v 31 0 = nI hw ↔ u 20 0 = nI hw := by rw [b1]; exact hw_eq b2 w2
          rcases Nat.lt_or_ge P 60 with f | f
          · rw [if_pos (show nI P < 60 from nI_lt (b := 60) f (by omega)), if_neg (show ¬ nI P = 60 from fun y => by have := (nI_eq (a := P) (b := 60) (by omega) (by omega)).mp y; omega)]
            by_cases c4 : u 20 0 = nI hw
            · rw [if_pos c4, if_pos (e.mpr c4)]
            · rw [if_neg c4, if_neg (fun y => c4 (e.mp y))]
          · have f : P = 60 := by omega
            subst f
            rw [if_neg (show ¬ nI 60 < 60 by decide), if_pos (show nI 60 = 60 from rfl)]
        rcases Decidable.em (g 0 (j + 1) = 0) with e | e
        · have s0 := (h.2.2.2.2.2 j hj).2.2.2.1 e
          rw [s0, if_neg (by decide), if_neg (by decide), if_pos (show (0 : Int32) < 2 by decide)]; exact key
        · obtain ⟨s1, s2, s3⟩ := st_g h hj e
          rw [s1]
          rcases (show g 3 (g 0 (j + 1)) = 1 ∨ g 3 (g 0 (j + 1)) = 2 ∨ g 3 (g 0 (j + 1)) = 3 by omega) with f | f | f
          · rw [f, if_neg (by decide), if_neg (by decide), if_pos (show nI 1 < 2 by decide)]; exact key
          · rw [f, if_pos (by decide), if_neg (by decide)]
          · rw [f, if_neg (by decide), if_pos (by decide), if_neg (by decide)]
theorem rf_ok {v : ww_U} {j : Nat} {ed z : Int32} (h : cu_refuse v j ed z = 0) : v 29 4 ≠ 0 ∧ v (kP j) 4 ≠ 2 ∧ v (kP j) 4 ≠ 3 ∧ v 29 2 < 60 := by
  unfold cu_refuse at h
  by_cases c1 : ed < 1
  · rw [if_pos c1] at h; exact absurd h (by decide)
  · rw [if_neg c1] at h
    by_cases c2 : 1000 < ed
    · rw [if_pos c2] at h; exact absurd h (by decide)
    · rw [if_neg c2] at h
      by_cases c3 : v 29 4 = 0
      · rw [if_pos c3] at h; exact absurd h (by decide)
      · rw [if_neg c3] at h
        by_cases c4 : v (kP j) 4 = 2
        · rw [if_pos c4] at h; exact absurd h (by decide)
        · rw [if_neg c4] at h
          by_cases c5 : v (kP j) 4 = 3
          · rw [if_pos c5] at h; exact absurd h (by decide)
          · rw [if_neg c5] at h
            by_cases c6 : v 29 2 < 60
            · exact ⟨c3, c4, c5, c6⟩
            · rw [if_neg c6] at h; exact absurd h (by decide)
def g_pk (g : Nat → Nat → Nat) (c P : Nat) : Nat → Nat → Nat := fun a b =>
  if a = 0 ∧ b = c then P + 1 else if a = 1 ∧ b = P + 1 then c else if a = 2 ∧ b = P + 1 then P + 1 else if a = 2 ∧ b = g 0 c then 0 else if a = 3 ∧ b = P + 1 then 1 else g a b
theorem re_pk {n P j g0 : Nat} {v u : ww_U} {g : Nat → Nat → Nat} {ed : Int32} (h : Rg n P v u g) (hj : j < n) (hP : P < 60) (hg0 : 0 < g0) (hg1 : g0 ≤ 256) (hgo : ∀ j, j < g0 → u 20 j = v 31 j &&& 255 ∧ (v 31 j).toInt8.toInt32 = v 31 j) (hs : g 0 (j + 1) = 0 ∨ g 3 (g 0 (j + 1)) = 1) : Rg n (P + 1) (cu_pk v j ed g0) (mo_pk u (j + 1) P g0 ed) (g_pk g (j + 1) P) := by
  have hn := Rg_n h
  obtain ⟨lg, tt, tr, tn, tf, tc⟩ := h
  have h : Rg n P v u g := ⟨lg, tt, tr, tn, tf, tc⟩
  have l1 := lg.1 (j + 1) (by omega) (by omega)
  have la4 := lg.2.2.2.2.2.2.2.2.2.2.2.2
  obtain ⟨⟨_, _, t1, t2, t3, t4⟩, _, th, td⟩ := tt
  have q0 : ∀ b, g_pk g (j + 1) P 0 b = if b = j + 1 then P + 1 else g 0 b := fun b => by simp [g_pk]
  have q1 : ∀ b, g_pk g (j + 1) P 1 b = if b = P + 1 then j + 1 else g 1 b := fun b => by simp [g_pk]
  have q2 : ∀ b, g_pk g (j + 1) P 2 b = if b = P + 1 then P + 1 else if b = g 0 (j + 1) then 0 else g 2 b := fun b => by simp [g_pk]
  have q3 : ∀ b, g_pk g (j + 1) P 3 b = if b = P + 1 then 1 else g 3 b := fun b => by simp [g_pk]
  have q4 : ∀ b, g_pk g (j + 1) P 4 b = g 4 b := fun b => by simp [g_pk]
  have q5 : ∀ b, g_pk g (j + 1) P 5 b = g 5 b := fun b => by simp [g_pk]
  have q6 : ∀ b, g_pk g (j + 1) P 6 b = g 6 b := fun b => by simp [g_pk]
  have q7 : ∀ b, g_pk g (j + 1) P 7 b = g 7 b := fun b => by simp [g_pk]
  have q8 : ∀ b, g_pk g (j + 1) P 8 b = g 8 b := fun b => by simp [g_pk]
  have lw := Lg_pk (G := g_pk g (j + 1) P) lg (by omega) (by omega) hs q0 q1 q2 q3 q4 q5 q6 q7 q8
  -- the class
  have e2 : v 29 2 + 1 = nI (P + 1) := by rw [t3, nI_1]
  have hV : ∀ a b, a ≠ 33 → a ≠ 34 → a ≠ 35 → a ≠ kP j → a ≠ kQ j → ¬ (a = 29 ∧ (b = 2 ∨ b = 4)) → cu_pk v j ed g0 a b = v a b := by
    intro a b a1 a2 a3 a4 a5 a6
    unfold cu_pk
    rw [ww_n (by omega), cl_digest_ne a1 a2 a3, cu_beg_ne a4 a5, ww_n (by omega)]
  have v292 : cu_pk v j ed g0 29 2 = nI (P + 1) := by
    unfold cu_pk
    rw [ww_n (by omega), cl_digest_ne (by decide) (by decide) (by decide), cu_beg_ne (by simp only [kP]; omega) (by simp only [kQ]; omega), ww_e rfl rfl, e2]
  have v294 : cu_pk v j ed g0 29 4 = 0 := by unfold cu_pk; exact ww_e rfl rfl
  have vP : ∀ b, cu_pk v j ed g0 (kP j) b = cu_beg g0 j (nI (P + 1)) ed (ww_up v 29 2 (nI (P + 1))) (kP j) b := by
    intro b
    unfold cu_pk
    rw [ww_n (by simp only [kP]; omega), cl_digest_ne (by simp only [kP]; omega) (by simp only [kP]; omega) (by simp only [kP]; omega), e2]
  have vQ : ∀ b, b < g0 → cu_pk v j ed g0 (kQ j) b = v 31 b := by
    intro b hb
    unfold cu_pk
    rw [ww_n (by simp only [kQ]; omega), cl_digest_ne (by simp only [kQ]; omega) (by simp only [kQ]; omega) (by simp only [kQ]; omega)]
    unfold cu_beg
    simp (disch := omega) only [kP, kQ, ww_n]
    rw [cu_begin_at, if_pos ⟨rfl, Nat.zero_le _, by omega⟩, ww_n (by omega)]
    exact (hgo b hb).2
  have v35 : ∀ r, cu_pk v j ed g0 35 r = cl_digest g0 (cu_beg g0 j (nI (P + 1)) ed (ww_up v 29 2 (nI (P + 1)))) 35 r := by
    intro r; unfold cu_pk; rw [ww_n (by omega), e2]
  have v31 : ∀ r, cu_beg g0 j (nI (P + 1)) ed (ww_up v 29 2 (nI (P + 1))) 31 r = v 31 r := by
    intro r; rw [cu_beg_ne (by simp only [kP]; omega) (by simp only [kQ]; omega), ww_n (by omega)]
  -- the reference
  have r4 := rd_4 h (c := j + 1) (by omega)
  have oN : ∀ a b, a ≠ 17 → mo_out u (j + 1) a b = u a b := by
    intro a b ha
    unfold mo_out
    split
    · rfl
    · exact ww_n (by omega)
  have o17 : ∀ p, p ≤ 60 → mo_out u (j + 1) 17 p = nI (if p = g 0 (j + 1) then 0 else g 2 p) := by
    intro p hp
    unfold mo_out
    rw [r4, (tr.1 (j + 1) (by omega)).1]
    have z := (tr.2.1 p hp).2.1
    rcases Decidable.em (g 0 (j + 1) = 0) with c | c
    · rw [c, if_pos (by decide), z]
      split
      · rename_i e; rw [e, (la4 0 (Or.inl rfl)).2]
      · rfl
    · rw [if_neg (nI_nle (by omega) (by omega)), ww_v]
      split
      · rename_i e; rw [if_pos e.2]; rfl
      · rename_i e; rw [if_neg (fun y => e ⟨rfl, y⟩), z]
  have hW : ∀ a b, a ≠ 21 → a ≠ 26 → a ≠ 27 → a ≠ 28 → ¬ (a = 0 ∧ b = 24) → mo_pk u (j + 1) P g0 ed a b = ww_up (mo_cp g0 0 (P + 1) (mo_new (mo_out u (j + 1)) (j + 1) P g0 ed)) 0 22 0 a b := by
    intro a b a1 a2 a3 a4 a5
    unfold mo_pk mo_dig
    rw [ww_n (by omega), mo_dl_ne a1, mo_l3_ne a2 a3 a4, mo_l2_ne a2]
  have hM : ∀ a b, a ≠ 19 → ¬ (a = 0 ∧ b = 22) → ww_up (mo_cp g0 0 (P + 1) (mo_new (mo_out u (j + 1)) (j + 1) P g0 ed)) 0 22 0 a b = mo_new (mo_out u (j + 1)) (j + 1) P g0 ed a b := by
    intro a b a1 a2
    rw [ww_n (by omega), mo_cp_ne a1]
  have hU : ∀ a b, a ≠ 0 → a ≠ 4 → a ≠ 11 → a ≠ 12 → a ≠ 13 → a ≠ 14 → a ≠ 17 → a ≠ 19 → a ≠ 21 → a ≠ 26 → a ≠ 27 → a ≠ 28 → mo_pk u (j + 1) P g0 ed a b = u a b := by
    intro a b a0 a4 a11 a12 a13 a14 a17 a19 a21 a26 a27 a28
    rw [hW a b a21 a26 a27 a28 (by omega), hM a b a19 (by omega)]
    unfold mo_new
    simp (disch := omega) only [ww_n]
    exact oN a b a17
  have hU0 : ∀ b, b ≠ 12 → b ≠ 22 → b ≠ 24 → mo_pk u (j + 1) P g0 ed 0 b = u 0 b := by
    intro b b1 b2 b3
    rw [hW 0 b (by decide) (by decide) (by decide) (by decide) (by omega), hM 0 b (by decide) (by omega)]
    unfold mo_new
    simp (disch := omega) only [ww_n]
    exact oN 0 b (by decide)
  have u012 : mo_pk u (j + 1) P g0 ed 0 12 = nI (P + 1) := by
    rw [hW 0 12 (by decide) (by decide) (by decide) (by decide) (by omega), hM 0 12 (by decide) (by omega)]
    unfold mo_new
    simp (disch := omega) only [ww_n, ww_e]
  have u022 : mo_pk u (j + 1) P g0 ed 0 22 = 0 := by
    rw [hW 0 22 (by decide) (by decide) (by decide) (by decide) (by omega)]; exact ww_e rfl rfl
  have u024 : mo_pk u (j + 1) P g0 ed 0 24 = 32 := by unfold mo_pk mo_dig; exact ww_e rfl rfl
  have hPk : ∀ a b, a = 4 ∨ a = 11 ∨ a = 12 ∨ a = 13 ∨ a = 14 ∨ a = 17 → mo_pk u (j + 1) P g0 ed a b = mo_new (mo_out u (j + 1)) (j + 1) P g0 ed a b := by
    intro a b ha
    rw [hW a b (by omega) (by omega) (by omega) (by omega) (by omega), hM a b (by omega) (by omega)]
  have u4 : ∀ c, c ≤ 8 → mo_pk u (j + 1) P g0 ed 4 c = nI (if c = j + 1 then P + 1 else g 0 c) := by
    intro c hc
    rw [hPk 4 c (by omega)]
    unfold mo_new
    split
    · rename_i e; simp (disch := omega) only [ww_n, ww_e]
    · rename_i e
      simp (disch := omega) only [ww_n]
      rw [oN 4 c (by decide)]; exact (tr.1 c hc).1
  have u11 : ∀ p, p ≤ 60 → mo_pk u (j + 1) P g0 ed 11 p = nI (if p = P + 1 then j + 1 else g 1 p) := by
    intro p hp
    rw [hPk 11 p (by omega)]
    unfold mo_new
    split
    · rename_i e; simp (disch := omega) only [ww_n, ww_e]
    · rename_i e
      simp (disch := omega) only [ww_n]
      rw [oN 11 p (by decide)]; exact (tr.2.1 p hp).1
  have u14 : ∀ p, p ≤ 60 → mo_pk u (j + 1) P g0 ed 14 p = nI (if p = P + 1 then 1 else g 3 p) := by
    intro p hp
    rw [hPk 14 p (by omega)]
    unfold mo_new
    split
    · rename_i e; simp (disch := omega) only [ww_n, ww_e]; rfl
    · rename_i e
      simp (disch := omega) only [ww_n]
      rw [oN 14 p (by decide)]; exact (tr.2.1 p hp).2.2.1
  have u17 : ∀ p, p ≤ 60 → mo_pk u (j + 1) P g0 ed 17 p = nI (if p = P + 1 then P + 1 else if p = g 0 (j + 1) then 0 else g 2 p) := by
    intro p hp
    rw [hPk 17 p (by omega)]
    unfold mo_new
    rcases Decidable.em (p = P + 1) with e | e
    · rw [if_pos e]; simp (disch := omega) only [ww_e]
    · rw [if_neg e]
      simp (disch := omega) only [ww_n]
      exact o17 p hp
  have u12 : ∀ p, mo_pk u (j + 1) P g0 ed 12 p = if p = P + 1 then ed else u 12 p := by
    intro p
    rw [hPk 12 p (by omega)]
    unfold mo_new
    split
    · rename_i e; simp (disch := omega) only [ww_n, ww_e]
    · rename_i e
      simp (disch := omega) only [ww_n]
      exact oN 12 p (by decide)
  have u13 : ∀ p, mo_pk u (j + 1) P g0 ed 13 p = if p = P + 1 then nI g0 else u 13 p := by
    intro p
    rw [hPk 13 p (by omega)]
    unfold mo_new
    split
    · rename_i e; simp (disch := omega) only [ww_n, ww_e]
    · rename_i e
      simp (disch := omega) only [ww_n]
      exact oN 13 p (by decide)
  have n20 : ∀ b, mo_new (mo_out u (j + 1)) (j + 1) P g0 ed 20 b = u 20 b := by
    intro b; unfold mo_new; simp (disch := omega) only [ww_n]; exact oN 20 b (by decide)
  have n19 : ∀ b, mo_new (mo_out u (j + 1)) (j + 1) P g0 ed 19 b = u 19 b := by
    intro b; unfold mo_new; simp (disch := omega) only [ww_n]; exact oN 19 b (by decide)
  have w19 : ∀ b, b < g0 → ww_up (mo_cp g0 0 (P + 1) (mo_new (mo_out u (j + 1)) (j + 1) P g0 ed)) 0 22 0 19 (256 * (P + 1) + b) = v 31 b &&& 255 := by
    intro b hb
    rw [ww_n (by omega), mo_cp_at, if_pos ⟨rfl, by omega, by omega⟩, show 256 * (P + 1) + b - 256 * (P + 1) = b by omega, n20]; exact (hgo b hb).1
  have u19 : ∀ b, b < g0 → mo_pk u (j + 1) P g0 ed 19 (256 * (P + 1) + b) = v 31 b &&& 255 := by
    intro b hb
    rw [hW 19 _ (by decide) (by decide) (by decide) (by decide) (by omega)]; exact w19 b hb
  have u19' : ∀ b, b < 256 * (P + 1) → mo_pk u (j + 1) P g0 ed 19 b = u 19 b := by
    intro b hb
    rw [hW 19 _ (by decide) (by decide) (by decide) (by decide) (by omega), ww_n (by omega), mo_cp_at, if_neg (by omega)]; exact n19 b
  have dg : ∀ i, i < 32 → cl_oct (cu_pk v j ed g0) i = (mo_pk u (j + 1) P g0 ed 21 i).toInt8.toInt32 := by
    intro i hi
    have w22 : ∀ a b, a = 22 ∨ a = 23 → ww_up (mo_cp g0 0 (P + 1) (mo_new (mo_out u (j + 1)) (j + 1) P g0 ed)) 0 22 0 a b = u a b := by
      intro a b ha
      rw [hM a b (by omega) (by omega)]
      unfold mo_new
      simp (disch := omega) only [ww_n]
      exact oN a b (by omega)
    have dw := digest_words (v := cu_beg g0 j (nI (P + 1)) ed (ww_up v 29 2 (nI (P + 1)))) (u := ww_up (mo_cp g0 0 (P + 1) (mo_new (mo_out u (j + 1)) (j + 1) P g0 ed)) 0 22 0) (m := g0) (p := P + 1) hg1 (fun b hb => by rw [v31]; exact w19 b hb) (fun t ht => by rw [w22 22 t (by omega)]; exact td.2.2.1 t ht) (fun t ht => by rw [w22 23 t (by omega)]; exact td.2.2.2 t ht) (i / 4) (by omega)
    rw [← v35] at dw
    rw [ob_eq hi dw]
    unfold mo_pk mo_dig
    rw [ww_n (by omega), mo_dl_at, if_pos (by omega)]
  generalize cu_pk v j ed g0 = v' at *
  generalize mo_pk u (j + 1) P g0 ed = u' at *
  generalize g_pk g (j + 1) P = G at *
  refine ⟨lw, ⟨⟨hn.1, by omega, ?_, ?_, v292, u012⟩, ⟨0, by omega, v294, u022, fun j hj => by omega⟩, ?_, ⟨fun z => by omega, fun _ => ⟨u024, dg⟩, fun t ht => ?_, fun t ht => ?_⟩⟩, ⟨fun c hc => ?_, fun p hp => ?_, ?_⟩, fun c h1 h2 => ?_, fun p h1 h2 => ?_, fun i hi => ?_⟩
  · rw [hV 29 1 (by decide) (by decide) (by decide) (by simp only [kP]; omega) (by simp only [kQ]; omega) (by omega)]; exact t1
  · rw [hU0 1 (by decide) (by decide) (by decide)]; exact t2
  · unfold TH at *
    rw [hV 29 5 (by decide) (by decide) (by decide) (by simp only [kP]; omega) (by simp only [kQ]; omega) (by omega), hV 29 6 (by decide) (by decide) (by decide) (by simp only [kP]; omega) (by simp only [kQ]; omega) (by omega), hU0 26 (by decide) (by decide) (by decide), hU0 27 (by decide) (by decide) (by decide)]; exact th
  · rw [hU 22 t (by decide) (by decide) (by decide) (by decide) (by decide) (by decide) (by decide) (by decide) (by decide) (by decide) (by decide) (by decide)]; exact td.2.2.1 t ht
  · rw [hU 23 t (by decide) (by decide) (by decide) (by decide) (by decide) (by decide) (by decide) (by decide) (by decide) (by decide) (by decide) (by decide)]; exact td.2.2.2 t ht
  · rw [u4 c hc, q0, hU 2 c (by decide) (by decide) (by decide) (by decide) (by decide) (by decide) (by decide) (by decide) (by decide) (by decide) (by decide) (by decide), q5]; exact ⟨rfl, (tr.1 c hc).2⟩
  · rw [u11 p hp, q1, u17 p hp, q2, u14 p hp, q3, hU 16 p (by decide) (by decide) (by decide) (by decide) (by decide) (by decide) (by decide) (by decide) (by decide) (by decide) (by decide) (by decide), q4]; exact ⟨rfl, rfl, rfl, (tr.2.1 p hp).2.2.2⟩
  · rw [hU0 28 (by decide) (by decide) (by decide), q6]; exact tr.2.2
  · have z := tn c h1 h2
    have hu : ∀ a b, a = 3 ∨ a = 5 ∨ a = 6 ∨ a = 9 ∨ a = 10 → u' a b = u a b := fun a b ha => hU a b (by omega) (by omega) (by omega) (by omega) (by omega) (by omega) (by omega) (by omega) (by omega) (by omega) (by omega) (by omega)
    rw [hu 3 c (by omega), hu 5 c (by omega), hu 6 c (by omega)]
    exact ⟨z.1, z.2.1, z.2.2.1, fun b hb => by rw [hu 9 _ (by omega)]; exact ⟨(z.2.2.2 b hb).1, fun j' hj' => by rw [hu 10 _ (by omega)]; exact (z.2.2.2 b hb).2 j' hj'⟩⟩
  · have z := tf p (by omega) h2
    rw [hU 15 p (by decide) (by decide) (by decide) (by decide) (by decide) (by decide) (by decide) (by decide) (by decide) (by decide) (by decide) (by decide), hU 18 p (by decide) (by decide) (by decide) (by decide) (by decide) (by decide) (by decide) (by decide) (by decide) (by decide) (by decide) (by decide)]; exact z
  · have hu : ∀ a b, a = 1 ∨ a = 3 ∨ a = 5 ∨ a = 6 ∨ a = 7 ∨ a = 8 ∨ a = 9 ∨ a = 10 ∨ a = 15 ∨ a = 18 → u' a b = u a b := fun a b ha => hU a b (by omega) (by omega) (by omega) (by omega) (by omega) (by omega) (by omega) (by omega) (by omega) (by omega) (by omega) (by omega)
    obtain ⟨ta, tb, tk, tp⟩ := tc i hi
    have ta' : TA v u' i := TA_u (fun a ha => hu a _ (by omega)) ta
    have tb' : TB v u' i := TB_u (fun b hb => hu 9 _ (by omega)) (fun b j hb hj => hu 10 _ (by omega)) tb
    have tk' : TK v G i := TK_g (q5 _) (q7 _) (fun b hb => q8 _) tk
    rcases Decidable.em (i = j) with e | e
    · subst e
      have hC : ∀ b, v' (kC i) b = v (kC i) b := fun b => hV _ b (by simp only [kC]; omega) (by simp only [kC]; omega) (by simp only [kC]; omega) (by simp only [kC, kP]; omega) (by simp only [kC, kQ]; omega) (by simp only [kC]; omega)
      have hB : ∀ b j, b < 2 → v' (kB i b) j = v (kB i b) j := fun b j hb => hV _ j (by simp only [kB]; omega) (by simp only [kB]; omega) (by simp only [kB]; omega) (by simp only [kB, kP]; omega) (by simp only [kB, kQ]; omega) (by simp only [kB]; omega)
      have hO : ∀ b j, b < 2 → v' (kO i b) j = v (kO i b) j := fun b j hb => hV _ j (by simp only [kO]; omega) (by simp only [kO]; omega) (by simp only [kO]; omega) (by simp only [kO, kP]; omega) (by simp only [kO, kQ]; omega) (by simp only [kO]; omega)
      have g0' : G 0 (i + 1) = P + 1 := by rw [q0, if_pos rfl]
      refine ⟨?_, TB_c (fun b hb => hB b 1 hb) (fun b j hb => hO b j hb) (fun _ _ => rfl) (fun _ => rfl) tb', ?_, fun z => by omega, fun _ => ?_⟩
      · unfold TA at ta' ⊢; simp only [hC]; exact ta'
      · refine ⟨by rw [hC]; exact tk'.1, by rw [hC]; exact tk'.2.1, fun b hb => by rw [hB b 2 hb]; exact tk'.2.2 b hb⟩
      · rw [g0']
        have z := tf (P + 1) (by omega) (by omega)
        have g3' : G 3 (P + 1) = 1 := by rw [q3, if_pos rfl]
        have g2' : G 2 (P + 1) = P + 1 := by rw [q2, if_pos rfl]
        refine ⟨?_, ?_, ?_, ?_, ?_, fun _ => ⟨0, g0, ?_, ?_, ?_, ?_, by omega, hg1, fun b hb => ?_⟩⟩
        · rw [vP, g3']; unfold cu_beg; simp (disch := omega) only [ww_n, ww_e]; rfl
        · rw [vP]; unfold cu_beg; simp (disch := omega) only [ww_n, ww_e]
        · rw [vP, g2']; unfold cu_beg; simp (disch := omega) only [ww_n, ww_e]
        · rw [vP, u12, if_pos rfl]; unfold cu_beg; simp (disch := omega) only [ww_n, ww_e]
        · rw [vP, g2', hu 18 _ (by omega), z.2]; unfold cu_beg; simp (disch := omega) only [ww_n, ww_e]
        · rw [vP]; unfold cu_beg; simp (disch := omega) only [ww_n, ww_e]; rfl
        · rw [hu 15 _ (by omega), z.1]; rfl
        · rw [vP]; unfold cu_beg; simp (disch := omega) only [ww_n, ww_e]
        · rw [u13, if_pos rfl]
        · rw [u19 b hb, vQ b hb]
    · refine TC_v (fun a b hb => ?_) ⟨ta', tb', tk', TP_u ?_ (fun z0 => ?_) tp⟩
      · simp only [blk] at hb
        exact hV a b (by omega) (by omega) (by omega) (by simp only [kP]; omega) (by simp only [kQ]; omega) (by omega)
      · rw [q0, if_neg (by omega)]
      · have x1 := lg.1 (i + 1) (by omega) (by omega)
        have x2 : g 0 (i + 1) ≠ g 0 (j + 1) := fun z => by
          have x3 := l1.2 (by rw [← z]; exact z0)
          rw [← z, (x1.2 z0).1] at x3
          omega
        refine TQ_u ?_ ?_ (hu 15 _ (by omega)) (hu 18 _ (by omega)) (fun b hb => u19' _ (by omega)) ?_ ?_
        · rw [u12, if_neg (by omega)]
        · rw [u13, if_neg (by omega)]
        · rw [q2, if_neg (by omega), if_neg x2]
        · rw [q3, if_neg (by omega)]
theorem re_pack {n P j : Nat} {v u : ww_U} (h : Rel n P v u) (hj : j < n) (ed z : Int32) : ∃ g0, g0 ≤ 256 ∧ v 29 4 = nI g0 ∧ u 0 22 = nI g0 ∧ (cu_pack v j ed z g0).2 = (mo_pack u (j + 1) P g0 ed z).2 ∧ ∃ P', Rel n P' (cu_pack v j ed z g0).1 (mo_pack u (j + 1) P g0 ed z).1 := by
  have tg0 := h.elim fun g hg => hg.2.1.2.1
  obtain ⟨g0, y1, y2, y3, _⟩ := tg0
  refine ⟨g0, y1, y2, y3, ?_⟩
  have h := Rel_z h
  unfold cu_pack mo_pack
  generalize mo_z u = u at h ⊢
  obtain ⟨g, h⟩ := h
  have hn := Rg_n h
  rw [← rf_eq h hj]
  rcases Decidable.em (cu_refuse v j ed z = 0) with c | c
  · rw [if_pos c, if_pos c]
    obtain ⟨c1, c2, c3, c4⟩ := rf_ok c
    obtain ⟨⟨_, _, t1, t2, t3, t4⟩, ⟨g1, x1, x2, x3, x4⟩, _⟩ := h.2.1
    have e : g1 = g0 := (nI_eq (by omega) (by omega)).mp (x2.symm.trans y2)
    subst e
    rw [t3] at c4
    have hP : P < 60 := (nI_ltI (b := 60) (by omega) (by omega)).mp c4
    refine ⟨by rw [t3, nI_1], P + 1, _, re_pk h hj hP (Nat.pos_of_ne_zero (fun e => c1 (by rw [y2, e]; rfl))) x1 x4 ?_⟩
    rcases Decidable.em (g 0 (j + 1) = 0) with e | e
    · exact Or.inl e
    · obtain ⟨s1, s2, s3⟩ := st_g h hj e
      rw [s1] at c2 c3
      rcases (show g 3 (g 0 (j + 1)) = 1 ∨ g 3 (g 0 (j + 1)) = 2 ∨ g 3 (g 0 (j + 1)) = 3 by omega) with f | f | f
      · exact Or.inr f
      · exact absurd (by rw [f]; rfl) c2
      · exact absurd (by rw [f]; rfl) c3
  · rw [if_neg c, if_neg c]; exact ⟨rfl, P, g, h⟩
