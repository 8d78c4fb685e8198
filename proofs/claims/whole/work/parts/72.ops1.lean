/-! calls that touch one controller or only the top cells -/
theorem Rg_top {n P : Nat} {v v' u u' : ww_U} {g : Nat → Nat → Nat} (hv : ∀ a b, 36 ≤ a → v' a b = v a b) (hu : ∀ a b, 1 ≤ a → a < 20 → u' a b = u a b) (h28 : u' 0 28 = u 0 28) (tt : TT n P v' u') (h : Rg n P v u g) : Rg n P v' u' g := by
  obtain ⟨lg, _, tr, tn, tf, tc⟩ := h
  refine ⟨lg, tt, ?_, ?_, ?_, fun i hi => TC_u (fun a b h0 _ _ _ _ _ _ h9 => hu a b (by omega) (by omega)) (TC_v (fun a b hb => hv a b (by unfold blk at hb; omega)) (tc i hi))⟩
  · unfold TR at *; rw [h28]; simp (disch := omega) only [hu]; exact tr
  · unfold TN at *; simp (disch := omega) only [hu]; exact tn
  · unfold TF at *; simp (disch := omega) only [hu]; exact tf
theorem Rg_1 {n P j : Nat} {v v' u u' : ww_U} {g g' : Nat → Nat → Nat} (hj : j < n) (h : Rg n P v u g) (lg' : Lg n P g')
    (hv : ∀ a b, ¬ blk j a → v' a b = v a b)
    (hu : ∀ a b, a < 29 → ¬ ((a = 2 ∨ a = 3 ∨ a = 5 ∨ a = 6 ∨ a = 7 ∨ a = 8) ∧ b = j + 1) → ¬ (a = 9 ∧ b / 2 = j + 1) → ¬ (a = 10 ∧ b / 512 = j + 1) → ¬ ((a = 14 ∨ a = 15 ∨ a = 16) ∧ b = g 0 (j + 1)) → u' a b = u a b)
    (hg : ∀ a b, ¬ (a = 5 ∧ b = j + 1) → ¬ (a = 8 ∧ b / 2 = j + 1) → ¬ ((a = 3 ∨ a = 4) ∧ b = g 0 (j + 1)) → g' a b = g a b)
    (e2 : u' 2 (j + 1) = nI (g' 5 (j + 1))) (e14 : u' 14 (g 0 (j + 1)) = nI (g' 3 (g 0 (j + 1)))) (e16 : u' 16 (g 0 (j + 1)) = nI (g' 4 (g 0 (j + 1))))
    (tcj : TC v' u' g' j) : Rg n P v' u' g' := by
  obtain ⟨lg, tt, tr, tn, tf, tc⟩ := h
  have hP0 : g 0 (j + 1) ≤ P := (lg.1 (j + 1) (by omega) (by omega)).1
  refine ⟨lg', TT_u (fun b h1 h2 => hu 0 b (by omega) (by omega) (by omega) (by omega) (by omega)) (fun a b h1 h2 => hu a b (by omega) (by omega) (by omega) (by omega) (by omega)) (TT_v (fun a b h1 h2 => hv a b (by unfold blk; omega)) tt), ⟨fun c hc => ?_, fun p hp => ?_, ?_⟩, fun c h1 h2 => ?_, fun p h1 h2 => ?_, fun i hi => ?_⟩
  · have z := tr.1 c hc
    refine ⟨?_, ?_⟩
    · rw [hu 4 c (by omega) (by omega) (by omega) (by omega) (by omega), hg 0 c (by omega) (by omega) (by omega)]; exact z.1
    · rcases Decidable.em (c = j + 1) with e | e
      · subst e; exact e2
      · rw [hu 2 c (by omega) (by omega) (by omega) (by omega) (by omega), hg 5 c (by omega) (by omega) (by omega)]; exact z.2
  · have z := tr.2.1 p hp
    rw [hu 11 p (by omega) (by omega) (by omega) (by omega) (by omega), hu 17 p (by omega) (by omega) (by omega) (by omega) (by omega), hg 1 p (by omega) (by omega) (by omega), hg 2 p (by omega) (by omega) (by omega)]
    refine ⟨z.1, z.2.1, ?_⟩
    rcases Decidable.em (p = g 0 (j + 1)) with e | e
    · subst e; exact ⟨e14, e16⟩
    · rw [hu 14 p (by omega) (by omega) (by omega) (by omega) (by omega), hu 16 p (by omega) (by omega) (by omega) (by omega) (by omega), hg 3 p (by omega) (by omega) (by omega), hg 4 p (by omega) (by omega) (by omega)]; exact z.2.2
  · rw [hu 0 28 (by omega) (by omega) (by omega) (by omega) (by omega), hg 6 0 (by omega) (by omega) (by omega)]; exact tr.2.2
  · have z := tn c h1 h2
    rw [hu 3 c (by omega) (by omega) (by omega) (by omega) (by omega), hu 5 c (by omega) (by omega) (by omega) (by omega) (by omega), hu 6 c (by omega) (by omega) (by omega) (by omega) (by omega)]
    refine ⟨z.1, z.2.1, z.2.2.1, fun b hb => ?_⟩
    rw [hu 9 _ (by omega) (by omega) (by omega) (by omega) (by omega)]
    exact ⟨(z.2.2.2 b hb).1, fun j' hj' => by rw [hu 10 _ (by omega) (by omega) (by omega) (by omega) (by omega)]; exact (z.2.2.2 b hb).2 j' hj'⟩
  · have z := tf p h1 h2
    rw [hu 15 p (by omega) (by omega) (by omega) (by omega) (by omega), hu 18 p (by omega) (by omega) (by omega) (by omega) (by omega)]; exact z
  · rcases Decidable.em (i = j) with e | e
    · subst e; exact tcj
    · obtain ⟨ta, tb, tk, tp⟩ := TC_v (v' := v') (fun a b hb => hv a b (fun z => by unfold blk at *; omega)) (tc i hi)
      refine ⟨TA_u (fun a ha => hu a _ (by omega) (by omega) (by omega) (by omega) (by omega)) ta, TB_u (fun b hb => hu 9 _ (by omega) (by omega) (by omega) (by omega) (by omega)) (fun b j' hb hj' => hu 10 _ (by omega) (by omega) (by omega) (by omega) (by omega)) tb, TK_g (hg 5 _ (by omega) (by omega) (by omega)) (hg 7 _ (by omega) (by omega) (by omega)) (fun b hb => hg 8 _ (by omega) (by omega) (by omega)) tk, TP_u (hg 0 _ (by omega) (by omega) (by omega)) (fun z0 => ?_) tp⟩
      have q1 := (lg.1 (i + 1) (by omega) (by omega)).2 z0
      have q2 : g 0 (i + 1) ≠ g 0 (j + 1) := fun z => by
        have q3 := (lg.1 (j + 1) (by omega) (by omega)).2 (by rw [← z]; exact z0)
        rw [← z, q1.1] at q3
        omega
      exact TQ_u (hu 12 _ (by omega) (by omega) (by omega) (by omega) (by omega)) (hu 13 _ (by omega) (by omega) (by omega) (by omega) (by omega)) (hu 15 _ (by omega) (by omega) (by omega) (by omega) (by omega)) (hu 18 _ (by omega) (by omega) (by omega) (by omega) (by omega)) (fun j' hj' => hu 19 _ (by omega) (by omega) (by omega) (by omega) (by omega)) (hg 2 _ (by omega) (by omega) (by omega)) (hg 3 _ (by omega) (by omega) (by omega))
theorem hold_eq {v u : ww_U} (h : TH v u) : cu_hold v = mo_ho u := by
  unfold cu_hold mo_ho
  obtain ⟨h1, h2⟩ := h
  rcases Decidable.em (v 29 5 = 0) with c | c
  · rw [if_pos c, if_neg (h1.mp c)]
  · have c1 : u 0 26 = 0 := Decidable.byContradiction (fun z => c (h1.mpr z))
    rw [if_neg c, if_pos c1]
    rcases Decidable.em (v 29 6 = 0) with d | d
    · rw [if_pos d, if_neg (h2.mp d)]
    · rw [if_neg d, if_pos (Decidable.byContradiction (fun z => d (h2.mpr z)))]
theorem i01 (x : Int32) : x = 0 ∨ x = 1 ∨ x < 0 ∨ (¬ x < 0 ∧ ¬ x ≤ 1 ∧ x ≠ 0 ∧ x ≠ 1) := by
  rcases pk_ix x (n := 2) (by decide) with h | h | ⟨j, hj, rfl⟩
  · exact Or.inr (Or.inr (Or.inl h))
  · refine Or.inr (Or.inr (Or.inr ⟨?_, ?_, ?_, ?_⟩))
    · intro z; rw [Int32.lt_iff_toInt_lt] at z; rw [Int32.le_iff_toInt_le] at h; have e : (nI 2).toInt = 2 := rfl; have e' : (0 : Int32).toInt = 0 := rfl; omega
    · intro z; rw [Int32.le_iff_toInt_le] at z h; have e : (nI 2).toInt = 2 := rfl; have e' : (1 : Int32).toInt = 1 := rfl; omega
    · intro z; subst z; exact absurd h (by decide)
    · intro z; subst z; exact absurd h (by decide)
  · match j, hj with
    | 0, _ => exact Or.inl rfl
    | 1, _ => exact Or.inr (Or.inl rfl)
theorem neg_iff {z : Int32} (hz : z = 0 ∨ z = 1) : z = 0 ↔ mo_neg z ≠ 0 := by
  rcases hz with rfl | rfl <;> decide
theorem re_cond {n P : Nat} {v u : ww_U} (h : Rel n P v u) (x z : Int32) (hz : z = 0 ∨ z = 1) : (cu_cond v x z).2 = (mo_cond u x z).2 ∧ Rel n P (cu_cond v x z).1 (mo_cond u x z).1 := by
  have h := Rel_z h
  unfold mo_cond cu_cond
  generalize mo_z u = u at h ⊢
  obtain ⟨g, h⟩ := h
  have tt := h.2.1
  obtain ⟨t0, tg, th, td⟩ := tt
  rcases i01 x with rfl | rfl | c | ⟨c1, c2, c3, c4⟩
  · rw [if_pos rfl, if_neg (by decide), if_pos (by decide), if_pos rfl]
    have th' : TH (ww_up v 29 5 z) (ww_up u 0 26 (mo_neg z)) := by
      unfold TH at *; simp (disch := omega) only [ww_n, ww_e]; exact ⟨neg_iff hz, th.2⟩
    refine ⟨hold_eq th', g, Rg_top (fun a b _ => ww_n (by omega)) (fun a b _ _ => ww_n (by omega)) ?_ ⟨?_, ?_, th', ?_⟩ h⟩
    · simp (disch := omega) only [ww_n]
    · unfold T0 at *; simp (disch := omega) only [ww_n]; exact t0
    · unfold TG at *; simp (disch := omega) only [ww_n]; exact tg
    · unfold TD cl_oct at *; simp (disch := omega) only [ww_n]; exact td
  · rw [if_neg (by decide), if_pos rfl, if_neg (by decide), if_pos (by decide), if_neg (by decide)]
    have th' : TH (ww_up v 29 6 z) (ww_up u 0 27 (mo_neg z)) := by
      unfold TH at *; simp (disch := omega) only [ww_n, ww_e]; exact ⟨th.1, neg_iff hz⟩
    refine ⟨hold_eq th', g, Rg_top (fun a b _ => ww_n (by omega)) (fun a b _ _ => ww_n (by omega)) ?_ ⟨?_, ?_, th', ?_⟩ h⟩
    · simp (disch := omega) only [ww_n]
    · unfold T0 at *; simp (disch := omega) only [ww_n]; exact t0
    · unfold TG at *; simp (disch := omega) only [ww_n]; exact tg
    · unfold TD cl_oct at *; simp (disch := omega) only [ww_n]; exact td
  · rw [if_neg (fun z => by subst z; exact absurd c (by decide)), if_neg (fun z => by subst z; exact absurd c (by decide)), if_pos c]
    exact ⟨rfl, g, h⟩
  · rw [if_neg c3, if_neg c4, if_neg c1, if_neg c2]
    exact ⟨rfl, g, h⟩
theorem re_oct {n P : Nat} {v u : ww_U} (h : Rel n P v u) (x : Int32) : ∃ g0, g0 ≤ 256 ∧ v 29 4 = nI g0 ∧ u 0 22 = nI g0 ∧ Rel n P (cu_octet v x g0) (mo_oct u x g0) := by
  have tg0 := h.elim fun g hg => hg.2.1.2.1
  obtain ⟨g0, q1, q2, q3, _⟩ := tg0
  refine ⟨g0, q1, q2, q3, ?_⟩
  have h := Rel_z h
  have q3 : mo_z u 0 22 = nI g0 := by unfold mo_z; rw [ww_n (by omega)]; exact q3
  unfold cu_octet mo_oct
  generalize mo_z u = u at h q3 ⊢
  obtain ⟨g, h⟩ := h
  rcases Decidable.em (g0 < 256) with c | c
  · rw [if_pos c, if_neg (by omega)]
    obtain ⟨t0, tg, th, td⟩ := h.2.1
    refine ⟨g, Rg_top (fun a b _ => ?_) (fun a b _ _ => ?_) ?_ ⟨?_, ?_, ?_, ?_⟩ h⟩
    · simp (disch := omega) only [ww_n]
    · simp (disch := omega) only [ww_n]
    · simp (disch := omega) only [ww_n]
    · unfold T0 at *; simp (disch := omega) only [ww_n]; exact t0
    · obtain ⟨g1, p1, p2, p3, p4⟩ := tg
      have e : g1 = g0 := (nI_eq (by omega) (by omega)).mp (p2.symm.trans q2)
      subst e
      refine ⟨g1 + 1, by omega, ww_e rfl rfl, ww_e rfl rfl, fun j hj => ?_⟩
      rcases Nat.lt_or_ge j g1 with d | d
      · simp (disch := omega) only [ww_n]; exact p4 j d
      · have d : j = g1 := by omega
        subst d
        simp (disch := omega) only [ww_n, ww_e]
        rw [nar_b]
        exact ⟨(bp_b x).symm, i8_8 x⟩
    · unfold TH at *; simp (disch := omega) only [ww_n]; exact th
    · unfold TD cl_oct at *; simp (disch := omega) only [ww_n]; exact td
  · rw [if_neg c, if_pos (by omega)]
    exact ⟨g, h⟩
theorem Rg_g {n P j : Nat} {v v' u u' : ww_U} {g : Nat → Nat → Nat} (hj : j < n) (h : Rg n P v u g)
    (hv : ∀ a b, ¬ blk j a → v' a b = v a b)
    (hu : ∀ a b, a < 29 → ¬ ((a = 3 ∨ a = 5 ∨ a = 6 ∨ a = 7 ∨ a = 8) ∧ b = j + 1) → ¬ (a = 9 ∧ b / 2 = j + 1) → ¬ (a = 10 ∧ b / 512 = j + 1) → ¬ (a = 15 ∧ b = g 0 (j + 1)) → u' a b = u a b)
    (tcj : TC v' u' g j) : Rg n P v' u' g := by
  have hn : n ≤ 8 := h.2.1.1.1
  have hP : P ≤ 60 := h.2.1.1.2.1
  have hP0 : g 0 (j + 1) ≤ P := (h.1.1 (j + 1) (by omega) (by omega)).1
  refine Rg_1 hj h h.1 hv (fun a b h0 h1 h2 h3 h4 => hu a b h0 (by omega) h2 h3 (by omega)) (fun a b _ _ _ => rfl) ?_ ?_ ?_ tcj
  · rw [hu 2 _ (by omega) (by omega) (by omega) (by omega) (by omega)]; exact (h.2.2.1.1 (j + 1) (by omega)).2
  · rw [hu 14 _ (by omega) (by omega) (by omega) (by omega) (by omega)]; exact (h.2.2.1.2.1 _ (by omega)).2.2.1
  · rw [hu 16 _ (by omega) (by omega) (by omega) (by omega) (by omega)]; exact (h.2.2.1.2.1 _ (by omega)).2.2.2
theorem re_block {n P j : Nat} {v u : ww_U} (h : Rel n P v u) (hj : j < n) (y z : Int32) : (cu_block v j y z).2 = (mo_block u (j + 1) y z).2 ∧ Rel n P (cu_block v j y z).1 (mo_block u (j + 1) y z).1 := by
  have h := Rel_z h
  unfold mo_block cu_block
  generalize mo_z u = u at h ⊢
  obtain ⟨g, h⟩ := h
  rcases Decidable.em (y < 0) with c | c
  · rw [if_pos c, if_pos c]; exact ⟨rfl, g, h⟩
  · rw [if_neg c, if_neg c]
    have e : 16 ≤ y ↔ 15 < y := by rw [Int32.le_iff_toInt_le, Int32.lt_iff_toInt_lt]; have e1 : (16 : Int32).toInt = 16 := rfl; have e2 : (15 : Int32).toInt = 15 := rfl; omega
    rcases Decidable.em (16 ≤ y) with d | d
    · rw [if_pos d, if_pos (e.mp d)]; exact ⟨rfl, g, h⟩
    · rw [if_neg d, if_neg (fun z => d (e.mpr z))]
      rcases Decidable.em (z = 0) with f | f
      · rw [if_pos f, if_pos f]; exact ⟨rfl, g, h⟩
      · rw [if_neg f, if_neg f]
        refine ⟨rfl, g, Rg_g hj h (fun a b hb => ?_) (fun a b h0 h1 h2 h3 h4 => ?_) ?_⟩
        · simp only [blk] at hb; simp (disch := omega) only [kC, ww_n]
        · simp (disch := omega) only [ww_n]
        · obtain ⟨ta, tb, tk, tp⟩ := h.2.2.2.2.2 j hj
          refine ⟨?_, ?_, ?_, ?_⟩
          · simp (disch := omega) only [TA, kC, ww_n, ww_e] at ta ⊢
            exact ⟨ta.1, ta.2.1, ta.2.2.1, ta.2.2.2.1, fun q => absurd q f, fun _ => ⟨trivial, trivial⟩⟩
          · simp (disch := omega) only [TB, kC, kB, kO, ww_n] at tb ⊢; exact tb
          · simp (disch := omega) only [TK, kC, kB, kO, ww_n] at tk ⊢; exact tk
          · simp (disch := omega) only [TP, TQ, kC, kP, kQ, ww_n] at tp ⊢; exact tp
theorem re_silent {n P j : Nat} {v u : ww_U} (h : Rel n P v u) (hj : j < n) (z : Int32) : cu_silent v j z = (if u 6 (j + 1) = z then 0 else 1) ∧ Rel n P (ww_up v (kC j) 6 z) (ww_up (mo_z u) 6 (j + 1) z) := by
  refine ⟨by obtain ⟨g, h⟩ := h; have ta := (h.2.2.2.2.2 j hj).1; unfold cu_silent; rw [ta.2.2.2.1], ?_⟩
  have h := Rel_z h
  generalize mo_z u = u at h ⊢
  obtain ⟨g, h⟩ := h
  refine ⟨g, Rg_g hj h (fun a b hb => ?_) (fun a b h0 h1 h2 h3 h4 => ?_) ?_⟩
  · simp only [blk] at hb; simp (disch := omega) only [kC, ww_n]
  · simp (disch := omega) only [ww_n]
  · obtain ⟨ta, tb, tk, tp⟩ := h.2.2.2.2.2 j hj
    refine ⟨?_, ?_, ?_, ?_⟩
    · simp (disch := omega) only [TA, kC, ww_n, ww_e] at ta ⊢
      exact ⟨ta.1, ta.2.1, ta.2.2.1, trivial, ta.2.2.2.2⟩
    · simp (disch := omega) only [TB, kC, kB, kO, ww_n] at tb ⊢; exact tb
    · simp (disch := omega) only [TK, kC, kB, kO, ww_n] at tk ⊢; exact tk
    · simp (disch := omega) only [TP, TQ, kC, kP, kQ, ww_n] at tp ⊢; exact tp
theorem re_counter {n P j : Nat} {v u : ww_U} (h : Rel n P v u) (hj : j < n) : v (kC j) 4 = u 3 (j + 1) := by
  obtain ⟨g, h⟩ := h
  exact (h.2.2.2.2.2 j hj).1.2.1
theorem i8_and (y : Int8) : (y.toInt32 &&& 255).toInt8.toInt32 = y.toInt32 := by
  rw [Int32.toInt8_and, Int8.toInt8_toInt32, show (255 : Int32).toInt8 = -1 from rfl, Int8.and_neg_one]
theorem re_bank {n P j b i : Nat} {v u : ww_U} (h : Rel n P v u) (hj : j < n) (hb : b < 2) (hi : i < 256) : (v (kO j b) i).toInt8.toInt32 = v (kO j b) i ∧ v (kO j b) i = (u 10 (512 * (j + 1) + 256 * b + i)).toInt8.toInt32 := by
  obtain ⟨g, h⟩ := h
  obtain ⟨q1, q2⟩ := ((h.2.2.2.2.2 j hj).2.1 b hb).2 i hi
  refine ⟨q2, ?_⟩
  rw [q1, ← q2]
  generalize (v (kO j b) i).toInt8 = y
  exact (i8_and y).symm
