/-! switch, commit, step, boot -/
theorem re_switch {n P j : Nat} {v u : ww_U} {g : Nat → Nat → Nat} (h : Rg n P v u g) (hj : j < n) (h0 : g 0 (j + 1) ≠ 0) (h3 : g 3 (g 0 (j + 1)) = 2) : Rel n P (cu_switch n v j) (mo_change P u (j + 1) (g 0 (j + 1))) := by
  have A := re_swA h hj h0 h3
  have hn := Rg_n h
  have l1 := h.1.1 (j + 1) (by omega) (by omega)
  have l2 := h.1.2.1 (g 0 (j + 1)) (by omega) (by omega)
  have eu : u 17 (g 0 (j + 1)) = nI (g 2 (g 0 (j + 1))) := (h.2.2.1.2.1 _ (by omega)).2.1
  have x0 : gu (gu g 5 (j + 1) (1 - g 5 (j + 1))) 3 (g 0 (j + 1)) 3 0 (j + 1) = g 0 (j + 1) := by rw [gu_n (by omega), gu_n (by omega)]
  have x1 : gu (gu g 5 (j + 1) (1 - g 5 (j + 1))) 3 (g 0 (j + 1)) 3 1 (g 0 (j + 1)) = j + 1 := by rw [gu_n (by omega), gu_n (by omega)]; exact (l1.2 h0).1
  have x2 : gu (gu g 5 (j + 1) (1 - g 5 (j + 1))) 3 (g 0 (j + 1)) 3 2 (g 0 (j + 1)) = g 2 (g 0 (j + 1)) := by rw [gu_n (by omega), gu_n (by omega)]
  unfold cu_switch mo_change
  rw [eu]
  have hs0 := (l1.2 h0).2
  generalize gu (gu g 5 (j + 1) (1 - g 5 (j + 1))) 3 (g 0 (j + 1)) 3 = g1 at *
  generalize ww_up (cu_other v j) (kP j) 4 3 = v1 at *
  generalize ww_up (mo_sw u (j + 1)) 14 (g 0 (j + 1)) 3 = u1 at *
  generalize g 0 (j + 1) = p at *
  generalize g 2 p = s at *
  have ev : v1 (kP j) 6 = nI s := by
    have z := ((A.2.2.2.2.2 j hj).2.2.2.2 (by rw [x0]; exact h0)).2.2.1
    rw [x0, x2] at z
    exact z
  rw [ev]
  have hs : s ≤ 60 := by omega
  have E := mem_iff (s := s) (p0 := p) A.1 (by omega) l1.1 (by rw [x1, x0]) x2 hs0 (Q := fun p => g1 3 p = 3)
  have hasw : cu_asw n 0 (nI s) v1 ≠ 0 ↔ ∀ i, i < n → (g1 0 (i + 1) ≠ 0 ∧ g1 2 (g1 0 (i + 1)) = s) → g1 3 (g1 0 (i + 1)) = 3 := by
    rw [asw_iff]
    refine ⟨fun H i hi hm => ?_, fun H i _ hi hm => ?_⟩
    · have z := H i (by omega) (by omega) ((isOf_iff A hi hs).mpr hm)
      have y := st_g A hi hm.1
      exact (nI_eq (b := 3) (by omega) (by omega)).mp (y.1.symm.trans z)
    · have hm := (isOf_iff A (by omega) hs).mp hm
      rw [(st_g A (by omega) hm.1).1, H i (by omega) hm]; rfl
  have hall : mo_all P 1 (nI s) 3 u1 1 ≠ 0 ↔ ∀ p, 1 ≤ p → p ≤ P → g1 2 p = s → g1 3 p = 3 := by
    rw [all_iff]
    refine ⟨fun H p a1 a2 a3 => ?_, fun H => ⟨by decide, fun p a1 a2 a3 => ⟨?_, fun z => absurd z (by decide)⟩⟩⟩
    · have t := A.2.2.1.2.1 p (by omega)
      have y := A.1.2.1 p a1 a2
      have z := (H.2 p a1 (by omega) (by rw [t.2.1, a3])).1
      exact (nI_eq (b := 3) (by omega) (by omega)).mp (t.2.2.1.symm.trans z)
    · have t := A.2.2.1.2.1 p (by omega)
      have y := A.1.2.1 p a1 (by omega)
      rw [t.2.1] at a3
      rw [t.2.2.1, H p a1 (by omega) ((nI_eq (by omega) (by omega)).mp a3)]; rfl
  rcases Decidable.em (cu_asw n 0 (nI s) v1 = 0) with c | c
  · have c2 : mo_all P 1 (nI s) 3 u1 1 = 0 := Decidable.byContradiction (fun z => (hasw.mpr (E.mpr (hall.mp z))) c)
    rw [if_pos c, if_pos c2]; exact ⟨_, A⟩
  · have H := E.mp (hasw.mp c)
    rw [if_neg c, if_neg (hall.mpr H)]
    exact ⟨_, re_fin A (by omega) l1.1 (by rw [x1, x0]) x2 hs0 H⟩
theorem re_com {n P s : Nat} {v u : ww_U} {g : Nat → Nat → Nat} (h : Rg n P v u g) (hs1 : s ≤ P) : Rg n P (cu_com n 0 (nI s) v) (ww_up u 18 s 1) g := by
  have hn := Rg_n h
  obtain ⟨lg, tt, tr, tn, tf, tc⟩ := h
  have h : Rg n P v u g := ⟨lg, tt, tr, tn, tf, tc⟩
  rw [com_it]
  refine ⟨lg, TT_it (com_1 _) (TT_u (fun b _ _ => ww_n (by omega)) (fun a b _ _ => ww_n (by omega)) tt), ?_, ?_, fun p h1 h2 => ?_, fun i hi => TC_it (com_1 _) (com_2 _) hi ?_⟩
  · simp (disch := omega) only [TR, ww_n] at tr ⊢; exact tr
  · simp (disch := omega) only [TN, ww_n] at tn ⊢; exact tn
  · rw [ww_n (by omega), ww_n (by omega)]; exact tf p h1 h2
  · have im := isOf_iff h hi (s := s) (by omega)
    obtain ⟨ta, tb, tk, tp⟩ := tc i hi
    unfold cs_com
    rcases Decidable.em (cu_isOf v i (nI s) = 0) with c | c
    · rw [if_pos c]
      refine ⟨TA_u (fun a ha => ww_n (by omega)) ta, TB_u (fun b hb => ww_n (by omega)) (fun b j hb hj => ww_n (by omega)) tb, tk, TP_u rfl (fun z => TQ_u (ww_n (by omega)) (ww_n (by omega)) (ww_n (by omega)) (ww_n (Or.inr (fun e => im.mpr ⟨z, e⟩ c))) (fun j hj => ww_n (by omega)) rfl rfl) tp⟩
    · rw [if_neg c]
      have nm := im.mp c
      refine ⟨?_, ?_, ?_, fun z => absurd z nm.1, fun _ => ?_⟩
      · simp (disch := omega) only [TA, kC, kP, ww_n] at ta ⊢; exact ta
      · simp (disch := omega) only [TB, kP, kB, kO, ww_n] at tb ⊢; exact tb
      · simp (disch := omega) only [TK, kP, kB, kC, ww_n] at tk ⊢; exact tk
      · obtain ⟨q1, q2, q3, q4, q5, q6⟩ := tp.2 nm.1
        refine ⟨?_, ?_, ?_, ?_, ?_, ?_⟩
        · rw [ww_n (by omega)]; exact q1
        · rw [ww_n (by omega)]; exact q2
        · rw [ww_n (by omega)]; exact q3
        · rw [ww_n (by omega), ww_n (by omega)]; exact q4
        · rw [ww_e rfl rfl, nm.2, ww_e rfl rfl]
        · simp (disch := omega) only [kP, kQ, ww_n] at q6 ⊢; exact q6
theorem up_same {u : ww_U} {k j : Nat} {x : Int32} (h : u k j = x) : ww_up u k j x = u := by
  funext a b
  rw [ww_v]
  split
  · rename_i e; rw [e.1, e.2, h]
  · rfl
theorem re_step {n P j : Nat} {v u : ww_U} (h : Rel n P v u) (hj : j < n) : (cu_step n v j).2 = (mo_step P u (j + 1)).2 ∧ Rel n P (cu_step n v j).1 (mo_step P u (j + 1)).1 := by
  have h := Rel_z h
  unfold cu_step mo_step
  generalize mo_z u = u at h ⊢
  obtain ⟨g, h⟩ := h
  have hn := Rg_n h
  unfold mo_stp
  have te := th_eq h hj
  have se := st_eq h hj
  have ho := hold_eq h.2.1.2.2.1
  rcases Decidable.em (cu_away v j = 0) with c | c
  · rw [if_pos c, if_neg (te.mpr c), ← se]
    rcases Decidable.em (v (kP j) 4 = 2) with d | d
    · rw [if_pos d, if_neg (by rw [d]; decide), if_pos d]
      obtain ⟨h0, h3⟩ := st_k (k := 2) h hj (by omega) (by omega) d
      have l1 := h.1.1 (j + 1) (by omega) (by omega)
      have l2 := h.1.2.1 (g 0 (j + 1)) (by omega) (by omega)
      obtain ⟨q1, q2, q3, q4, q5, q6⟩ := (h.2.2.2.2.2 j hj).2.2.2.2 h0
      have eu : u 17 (g 0 (j + 1)) = nI (g 2 (g 0 (j + 1))) := (h.2.2.1.2.1 _ (by omega)).2.1
      rw [rd_4 h (c := j + 1) (by omega), (rd_17 h (p := g 0 (j + 1)) (by omega)).1]
      unfold cu_ready
      rw [q3]
      rcases Decidable.em (v (kP j) 7 = 0) with e | e
      · have e' := q5.mp e
        rw [if_pos e, if_pos e']
        unfold mo_cmt
        rw [← ho, rd_4 h (c := j + 1) (by omega), eu]
        have keep : mo_st (ww_up u 18 (g 2 (g 0 (j + 1))) 1) (j + 1) = 2 := by
          rw [← d, se]; unfold mo_st mo_rd; simp (disch := omega) only [ww_n]
        rcases Decidable.em (cu_hold v = 0) with f | f
        · rw [if_pos f, if_pos f, up_same e', ← se, d]; exact ⟨rfl, g, h⟩
        · rw [if_neg f, if_neg f]
          have E := mem_iff (s := g 2 (g 0 (j + 1))) (p0 := g 0 (j + 1)) h.1 (by omega) l1.1 (by rw [(l1.2 h0).1]) rfl (l1.2 h0).2 (Q := fun p => g 3 p = 2 ∧ mo_th u (g 1 p) ≠ 0)
          have hcan : cu_can n 0 (nI (g 2 (g 0 (j + 1)))) v ≠ 0 ↔ ∀ i, i < n → (g 0 (i + 1) ≠ 0 ∧ g 2 (g 0 (i + 1)) = g 2 (g 0 (j + 1))) → g 3 (g 0 (i + 1)) = 2 ∧ mo_th u (g 1 (g 0 (i + 1))) ≠ 0 := by
            rw [can_iff]
            refine ⟨fun H i hi hm => ?_, fun H i _ hi hm => ?_⟩
            · have z := H i (by omega) (by omega) ((isOf_iff h hi (by omega)).mpr hm)
              have y := st_g h hi hm.1
              have l1' := ((h.1.1 (i + 1) (by omega) (by omega)).2 hm.1).1
              refine ⟨(nI_eq (b := 2) (by omega) (by omega)).mp (y.1.symm.trans z.1), ?_⟩
              rw [l1']; exact (th_eq h hi).mpr z.2
            · have hm := (isOf_iff h (by omega) (by omega)).mp hm
              have l1' := ((h.1.1 (i + 1) (by omega) (by omega)).2 hm.1).1
              have z := H i (by omega) hm
              rw [l1'] at z
              rw [(st_g h (by omega) hm.1).1, z.1]
              exact ⟨rfl, (th_eq h (by omega)).mp z.2⟩
          have hall : mo_all P 1 (nI (g 2 (g 0 (j + 1)))) 2 u 1 ≠ 0 ↔ ∀ p, 1 ≤ p → p ≤ P → g 2 p = g 2 (g 0 (j + 1)) → g 3 p = 2 ∧ mo_th u (g 1 p) ≠ 0 := by
            rw [all_iff]
            refine ⟨fun H p a1 a2 a3 => ?_, fun H => ⟨by decide, fun p a1 a2 a3 => ?_⟩⟩
            · have t := h.2.2.1.2.1 p (by omega)
              have y := h.1.2.1 p a1 a2
              have z := H.2 p a1 (by omega) (by rw [t.2.1, a3])
              rw [(rd_11 h (p := p) (by omega)).1] at z
              exact ⟨(nI_eq (b := 2) (by omega) (by omega)).mp (t.2.2.1.symm.trans z.1), z.2 rfl⟩
            · have t := h.2.2.1.2.1 p (by omega)
              have y := h.1.2.1 p a1 (by omega)
              rw [t.2.1] at a3
              have z := H p a1 (by omega) ((nI_eq (by omega) (by omega)).mp a3)
              rw [t.2.2.1, z.1, (rd_11 h (p := p) (by omega)).1]
              exact ⟨rfl, fun _ => z.2⟩
          rcases Decidable.em (cu_can n 0 (nI (g 2 (g 0 (j + 1)))) v = 0) with f2 | f2
          · have c2 : mo_all P 1 (nI (g 2 (g 0 (j + 1)))) 2 u 1 = 0 := Decidable.byContradiction (fun z => (hcan.mpr (E.mpr (hall.mp z))) f2)
            rw [if_pos f2, if_pos c2, up_same e', ← se, d]; exact ⟨rfl, g, h⟩
          · rw [if_neg f2, if_neg (hall.mpr (E.mp (hcan.mp f2))), keep]
            exact ⟨rfl, g, re_com h l2.2.2.1⟩
      · rw [if_neg e, if_neg (fun z => e (q5.mpr z))]
        exact ⟨rfl, re_switch h hj h0 h3⟩
    · rw [if_neg d]
      rcases Decidable.em (v (kP j) 4 = 1) with e | e
      · rw [if_pos e, if_pos e, ← ho]
        obtain ⟨h0, h3⟩ := st_k (k := 1) h hj (by omega) (by omega) e
        rcases Decidable.em (cu_hold v = 0) with f | f
        · rw [if_pos f, if_pos f]; exact ⟨rfl, g, h⟩
        · rw [if_neg f, if_neg f]
          have R := re_wrt h hj h0 h3
          exact ⟨R.elim fun g' h' => st_eq h' hj, R⟩
      · rw [if_neg e, if_neg e, if_neg d]; exact ⟨rfl, g, h⟩
  · rw [if_neg c, if_pos (Decidable.byContradiction (fun z => c (te.mp z)))]; exact ⟨rfl, g, h⟩
theorem re_boot {n P j : Nat} {v u : ww_U} (h : Rel n P v u) (hj : j < n) : cu_boot_r n v j = mo_boot P u (j + 1) 9 (2 * (j + 1) + mo_rd (mo_boot P u (j + 1)) 2 (j + 1)) ∧ Rel n P (cu_boot n v j) (mo_boot P u (j + 1)) := by
  have R : Rel n P (cu_boot n v j) (mo_boot P u (j + 1)) := by
    have h := Rel_z h
    unfold mo_boot
    generalize mo_z u = u at h ⊢
    obtain ⟨g, h⟩ := h
    have hn := Rg_n h
    have H := re_off h hj 0
    have ta := (h.2.2.2.2.2 j hj).1
    have e1 : mo_st (ww_up u 5 (j + 1) 0) (j + 1) = v (kP j) 4 := by
      rw [st_eq h hj]; unfold mo_st mo_rd; simp (disch := omega) only [ww_n]
    have e3 : ww_up v (kC j) 5 0 (kP j) 4 = v (kP j) 4 := ww_n (by simp only [kC, kP]; omega)
    have e4 : ww_up v (kC j) 5 0 (kP j) 7 = v (kP j) 7 := ww_n (by simp only [kC, kP]; omega)
    unfold cu_boot mo_bt
    rw [ta.2.2.1, e1, e3, e4]
    rcases Decidable.em (u 5 (j + 1) = 0) with c | c
    · rw [if_pos c, if_pos c, up_same c]; exact ⟨g, h⟩
    · rw [if_neg c, if_neg c]
      rcases Decidable.em (v (kP j) 4 = 2) with d | d
      · rw [if_pos d, if_pos d]
        obtain ⟨h0, h3⟩ := st_k (k := 2) h hj (by omega) (by omega) d
        have l1 := h.1.1 (j + 1) (by omega) (by omega)
        obtain ⟨q1, q2, q3, q4, q5, q6⟩ := (h.2.2.2.2.2 j hj).2.2.2.2 h0
        rw [rd_4 h (c := j + 1) (by omega), (rd_17 h (p := g 0 (j + 1)) (by omega)).1]
        rcases Decidable.em (v (kP j) 7 = 0) with e | e
        · rw [if_pos e, if_pos (q5.mp e)]; exact ⟨g, H⟩
        · rw [if_neg e, if_neg (fun z => e (q5.mpr z))]; exact re_switch H hj h0 h3
      · rw [if_neg d, if_neg d]; exact ⟨g, H⟩
  refine ⟨?_, R⟩
  obtain ⟨g, h⟩ := R
  have hn := Rg_n h
  unfold cu_boot_r
  rw [b_eq h hj, rd_2 h (c := j + 1) (by omega)]
  exact ((h.2.2.2.2.2 j hj).2.1 _ (Lg_5 h.1)).1
