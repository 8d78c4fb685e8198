/-! cut, switch, commit, step, boot -/
theorem Rg_n {n P : Nat} {v u : ww_U} {g : Nat → Nat → Nat} (h : Rg n P v u g) : n ≤ 8 ∧ P ≤ 60 := ⟨h.2.1.1.1, h.2.1.1.2.1⟩
theorem Lg_5 {n P c : Nat} {g : Nat → Nat → Nat} (h : Lg n P g) : g 5 c < 2 := h.2.2.2.2.2.2.2.2.2.1 c
theorem st_g {n P i : Nat} {v u : ww_U} {g : Nat → Nat → Nat} (h : Rg n P v u g) (hi : i < n) (h0 : g 0 (i + 1) ≠ 0) : v (kP i) 4 = nI (g 3 (g 0 (i + 1))) ∧ 1 ≤ g 3 (g 0 (i + 1)) ∧ g 3 (g 0 (i + 1)) ≤ 3 := by
  have l1 := h.1.1 (i + 1) (by omega) (by omega)
  have l2 := h.1.2.1 (g 0 (i + 1)) (by omega) (by omega)
  exact ⟨((h.2.2.2.2.2 i hi).2.2.2.2 h0).1, by omega, by omega⟩
theorem st_0 {n P i : Nat} {v u : ww_U} {g : Nat → Nat → Nat} (h : Rg n P v u g) (hi : i < n) (h0 : v (kP i) 4 ≠ 0) : g 0 (i + 1) ≠ 0 := fun z => h0 ((h.2.2.2.2.2 i hi).2.2.2.1 z)
theorem st_k {n P i k : Nat} {v u : ww_U} {g : Nat → Nat → Nat} (h : Rg n P v u g) (hi : i < n) (hk : 1 ≤ k) (hk3 : k ≤ 3) (hv : v (kP i) 4 = nI k) : g 0 (i + 1) ≠ 0 ∧ g 3 (g 0 (i + 1)) = k := by
  have h0 := st_0 h hi (by rw [hv]; exact nI_ne0 (by omega) (by omega))
  have z := st_g h hi h0
  exact ⟨h0, (nI_eq (by omega) (by omega)).mp (z.1.symm.trans hv)⟩
theorem isOf_iff {n P i s : Nat} {v u : ww_U} {g : Nat → Nat → Nat} (h : Rg n P v u g) (hi : i < n) (hs : s ≤ 60) : cu_isOf v i (nI s) ≠ 0 ↔ g 0 (i + 1) ≠ 0 ∧ g 2 (g 0 (i + 1)) = s := by
  have hn := Rg_n h
  have tp := (h.2.2.2.2.2 i hi).2.2.2
  have l1 := h.1.1 (i + 1) (by omega) (by omega)
  unfold cu_isOf
  rcases Decidable.em (g 0 (i + 1) = 0) with c | c
  · rw [if_pos (tp.1 c)]
    exact ⟨fun z => absurd rfl z, fun z => absurd c z.1⟩
  · have z := st_g h hi c
    have l2 := h.1.2.1 (g 0 (i + 1)) (by omega) (by omega)
    rw [if_neg (by rw [z.1]; exact nI_ne0 (by omega) (by omega)), (tp.2 c).2.2.1]
    rcases Decidable.em (g 2 (g 0 (i + 1)) = s) with d | d
    · rw [d, if_pos rfl]; exact ⟨fun _ => ⟨c, rfl⟩, fun _ => by decide⟩
    · rw [if_neg (fun e => d ((nI_eq (by omega) (by omega)).mp e))]; exact ⟨fun z => absurd rfl z, fun z => absurd z.2 d⟩
theorem th_eq {n P i : Nat} {v u : ww_U} {g : Nat → Nat → Nat} (h : Rg n P v u g) (hi : i < n) : mo_th u (i + 1) ≠ 0 ↔ cu_away v i = 0 := by
  have ta := (h.2.2.2.2.2 i hi).1
  unfold mo_th cu_away
  rw [ta.2.2.1, ta.2.2.2.1]
  by_cases c1 : u 5 (i + 1) = 0 <;> by_cases c2 : u 6 (i + 1) = 0 <;> simp [c1, c2]
theorem mem_iff {n P s p0 : Nat} {g : Nat → Nat → Nat} (h : Lg n P g) (hp1 : 1 ≤ p0) (hp2 : p0 ≤ P) (hpo : g 0 (g 1 p0) = p0) (hps : g 2 p0 = s) (hs0 : s ≠ 0) {Q : Nat → Prop} : (∀ i, i < n → (g 0 (i + 1) ≠ 0 ∧ g 2 (g 0 (i + 1)) = s) → Q (g 0 (i + 1))) ↔ ∀ p, 1 ≤ p → p ≤ P → g 2 p = s → Q p := by
  refine ⟨fun H p h1 h2 h3 => ?_, fun H i hi hm => ?_⟩
  · have l3 := (h.2.2.1 p0 p hp1 hp2 h1 h2 (hps.trans h3.symm) (by omega)).1 hpo
    have l2 := h.2.1 p h1 h2
    have z := H (g 1 p - 1) (by omega)
    rw [show g 1 p - 1 + 1 = g 1 p by omega, l3] at z
    exact z ⟨by omega, h3⟩
  · have l1 := h.1 (i + 1) (by omega) (by omega)
    exact H _ (by omega) (by omega) hm.2
theorem rd_4 {n P c : Nat} {v u : ww_U} {g : Nat → Nat → Nat} (h : Rg n P v u g) (hc : c ≤ 8) : mo_rd u 4 c = g 0 c := by
  have hn := Rg_n h
  have e := (h.2.2.1.1 c hc).1
  have b : g 0 c ≤ P := by
    rcases Decidable.em (1 ≤ c ∧ c ≤ n) with z | z
    · exact (h.1.1 c z.1 z.2).1
    · have := (h.1.2.2.2.2.2.2.2.2.2.2.2.1 c (by omega)).1
      omega
  unfold mo_rd; rw [e, nI_clamp (by omega)]
theorem rd_11 {n P p : Nat} {v u : ww_U} {g : Nat → Nat → Nat} (h : Rg n P v u g) (hc : p ≤ 60) : mo_rd u 11 p = g 1 p ∧ g 1 p ≤ 8 := by
  have hn := Rg_n h
  have e := (h.2.2.1.2.1 p hc).1
  have b : g 1 p ≤ 8 := by
    rcases Decidable.em (1 ≤ p ∧ p ≤ P) with z | z
    · have := (h.1.2.1 p z.1 z.2).2.1; omega
    · have := (h.1.2.2.2.2.2.2.2.2.2.2.2.2 p (by omega)).1
      omega
  unfold mo_rd; rw [e, nI_clamp (by omega)]; exact ⟨rfl, b⟩
theorem rd_17 {n P p : Nat} {v u : ww_U} {g : Nat → Nat → Nat} (h : Rg n P v u g) (hc : p ≤ 60) : mo_rd u 17 p = g 2 p ∧ g 2 p ≤ 60 := by
  have hn := Rg_n h
  have e := (h.2.2.1.2.1 p hc).2.1
  have b : g 2 p ≤ 60 := by
    rcases Decidable.em (1 ≤ p ∧ p ≤ P) with z | z
    · have := (h.1.2.1 p z.1 z.2).2.2.1; omega
    · have := (h.1.2.2.2.2.2.2.2.2.2.2.2.2 p (by omega)).2
      omega
  unfold mo_rd; rw [e, nI_clamp (by omega)]; exact ⟨rfl, b⟩
theorem rd_2 {n P c : Nat} {v u : ww_U} {g : Nat → Nat → Nat} (h : Rg n P v u g) (hc : c ≤ 8) : mo_rd u 2 c = g 5 c := by
  have b := Lg_5 (c := c) h.1
  unfold mo_rd; rw [(h.2.2.1.1 c hc).2, nI_clamp (by omega)]
theorem b_eq {n P i : Nat} {v u : ww_U} {g : Nat → Nat → Nat} (h : Rg n P v u g) (hi : i < n) : cu_b v i = g 5 (i + 1) := by
  have b := Lg_5 (c := i + 1) h.1
  unfold cu_b; rw [(h.2.2.2.2.2 i hi).2.2.1.1, nI_clamp (by omega)]
theorem re_off {n P j : Nat} {v u : ww_U} {g : Nat → Nat → Nat} (h : Rg n P v u g) (hj : j < n) (x : Int32) : Rg n P (ww_up v (kC j) 5 x) (ww_up u 5 (j + 1) x) g := by
  refine Rg_g hj h (fun a b hb => ?_) (fun a b h0 h1 h2 h3 h4 => ?_) ?_
  · simp only [blk] at hb; simp (disch := omega) only [kC, ww_n]
  · simp (disch := omega) only [ww_n]
  · obtain ⟨ta, tb, tk, tp⟩ := h.2.2.2.2.2 j hj
    refine ⟨?_, ?_, ?_, ?_⟩
    · simp (disch := omega) only [TA, kC, ww_n, ww_e] at ta ⊢
      exact ⟨ta.1, ta.2.1, trivial, ta.2.2.2⟩
    · simp (disch := omega) only [TB, kC, kB, kO, ww_n] at tb ⊢; exact tb
    · simp (disch := omega) only [TK, kC, kB, kO, ww_n] at tk ⊢; exact tk
    · simp (disch := omega) only [TP, TQ, kC, kP, kQ, ww_n] at tp ⊢; exact tp
theorem re_lose {n P j : Nat} {v u : ww_U} {g : Nat → Nat → Nat} (h : Rg n P v u g) (hj : j < n) : Rg n P (cu_lose (ww_up v (kC j) 5 1) j) (mo_cl u (j + 1)) g := by
  have hn := Rg_n h
  have e1 : mo_st (ww_up u 5 (j + 1) 1) (j + 1) = v (kP j) 4 := by
    rw [st_eq h hj]; unfold mo_st mo_rd; simp (disch := omega) only [ww_n]
  have e2 := rd_4 h (c := j + 1) (by omega)
  have H := re_off h hj 1
  have e3 : ww_up v (kC j) 5 1 (kP j) 4 = v (kP j) 4 := ww_n (by simp only [kC, kP]; omega)
  have e4 : ww_up v (kC j) 5 1 (kP j) 5 = v (kP j) 5 := ww_n (by simp only [kC, kP]; omega)
  unfold cu_lose mo_cl
  rw [e1, e2, e3, e4]
  rcases Decidable.em (v (kP j) 4 = 1) with c | c
  · rw [if_pos c, if_pos c]
    obtain ⟨h0, h3⟩ := st_k (k := 1) h hj (by omega) (by omega) c
    have l1 := (h.1.1 (j + 1) (by omega) (by omega)).1
    obtain ⟨q1, q2, q3, q4, q5, q6⟩ := (h.2.2.2.2.2 j hj).2.2.2.2 h0
    obtain ⟨w, len, x1, x2, x3, x4, x5, x6, x7⟩ := q6 h3
    rw [x1, x2]
    rcases Decidable.em (w = 0) with d | d
    · subst d; rw [if_pos (by decide), if_pos (by decide)]; exact H
    · rw [if_neg (nI_nle (by omega) (by omega)), if_neg (nI_nle (by omega) (by omega))]
      obtain ⟨w', rfl⟩ : ∃ w', w = w' + 1 := ⟨w - 1, by omega⟩
      rw [nI_pred]
      refine Rg_g hj H (fun a b hb => ?_) (fun a b h0 h1 h2 h3 h4 => ?_) ?_
      · simp only [blk] at hb; simp (disch := omega) only [kP, ww_n]
      · simp (disch := omega) only [ww_n]
      · obtain ⟨ta, tb, tk, tp⟩ := H.2.2.2.2.2 j hj
        refine ⟨?_, ?_, ?_, fun z => absurd z h0, fun _ => ?_⟩
        · generalize ww_up v (kC j) 5 1 = v at *
          generalize ww_up u 5 (j + 1) 1 = u at *
          simp (disch := omega) only [TA, kC, kP, ww_n, ww_e] at ta ⊢; exact ta
        · generalize ww_up v (kC j) 5 1 = v at *
          generalize ww_up u 5 (j + 1) 1 = u at *
          simp (disch := omega) only [TB, kC, kB, kO, kP, ww_n] at tb ⊢; exact tb
        · generalize ww_up v (kC j) 5 1 = v at *
          simp (disch := omega) only [TK, kC, kB, kO, kP, ww_n] at tk ⊢; exact tk
        · refine ⟨?_, ?_, ?_, ?_, ?_, fun _ => ⟨w', len, ww_e rfl rfl, ww_e rfl rfl, ?_, ?_, by omega, x6, fun j' hj' => ?_⟩⟩
          · simp (disch := omega) only [kP, kC, ww_n] at q1 ⊢; exact q1
          · simp (disch := omega) only [kP, kC, ww_n] at q2 ⊢; exact q2
          · simp (disch := omega) only [kP, kC, ww_n] at q3 ⊢; exact q3
          · simp (disch := omega) only [kP, kC, ww_n] at q4 ⊢; exact q4
          · simp (disch := omega) only [kP, kC, ww_n] at q5 ⊢; exact q5
          · simp (disch := omega) only [kP, kC, ww_n] at x3 ⊢; exact x3
          · simp (disch := omega) only [ww_n]; exact x4
          · have z := x7 j' hj'
            simp (disch := omega) only [kQ, kP, kC, ww_n] at z ⊢; exact z
  · rw [if_neg c, if_neg c]; exact H
theorem re_cut {n P : Nat} {g : Nat → Nat → Nat} : ∀ (d k : Nat) (v u : ww_U) (c : Int32), k + d = n → Rg n P v u g → (cu_cut d k v c).2 = (mo_cut d (k + 1) u c).2 ∧ Rg n P (cu_cut d k v c).1 (mo_cut d (k + 1) u c).1 g
  | 0, k, v, u, c, _, h => ⟨rfl, h⟩
  | d + 1, k, v, u, c, hk, h => by
    simp only [cu_cut, mo_cut]
    rw [(h.2.2.2.2.2 k (by omega)).1.2.2.1]
    exact re_cut d (k + 1) _ _ _ (by omega) (re_lose h (by omega))
theorem re_swA {n P j : Nat} {v u : ww_U} {g : Nat → Nat → Nat} (h : Rg n P v u g) (hj : j < n) (h0 : g 0 (j + 1) ≠ 0) (h3 : g 3 (g 0 (j + 1)) = 2) :
    Rg n P (ww_up (cu_other v j) (kP j) 4 3) (ww_up (mo_sw u (j + 1)) 14 (g 0 (j + 1)) 3) (gu (gu g 5 (j + 1) (1 - g 5 (j + 1))) 3 (g 0 (j + 1)) 3) := by
  have hn := Rg_n h
  have hr := Lg_5 (c := j + 1) h.1
  have l1 := h.1.1 (j + 1) (by omega) (by omega)
  have eb := b_eq h hj
  have e2 := rd_2 h (c := j + 1) (by omega)
  obtain ⟨ta, tb, tk, tp⟩ := h.2.2.2.2.2 j hj
  obtain ⟨q1, q2, q3, q4, q5, q6⟩ := tp.2 h0
  have r2 := (h.2.2.1.1 (j + 1) (by omega)).2
  have r16 := (h.2.2.1.2.1 (g 0 (j + 1)) (by omega)).2.2.2
  have t9 := (tb (1 - g 5 (j + 1)) (by omega)).1
  have lw := Lg_sw (c := j + 1) (p0 := g 0 (j + 1)) (G := gu (gu g 5 (j + 1) (1 - g 5 (j + 1))) 3 (g 0 (j + 1)) 3) h.1 (by omega) (by omega) rfl h0 h3 (fun b => by simp [gu]) (fun b => by simp [gu]) (fun b => by simp [gu]) (fun b => by simp [gu]) (fun b => by simp [gu]) (fun b => by simp [gu]) (fun b => by simp [gu]) (fun b => by simp [gu]) (fun b => by simp [gu])
  unfold cu_other
  rw [eb, tk.1, nI_sub1 hr]
  generalize hp : g 0 (j + 1) = p at *
  generalize hrr : g 5 (j + 1) = r at *
  refine Rg_1 hj h lw (fun a b hb' => ?_) (fun a b h0 h1 h2 h3 h4 => ?_) (fun a b h1 h2 h3 => ?_) ?_ ?_ ?_ ⟨?_, ?_, ?_, ?_⟩
  · simp only [blk] at hb'; simp (disch := omega) only [kP, kC, ww_n]
  · rw [ww_n (by omega), mo_sw_n (by omega)]
  · rw [gu_n (by omega), gu_n (by omega)]
  · rw [ww_n (by omega), mo_sw_2, r2, gu_n (by omega), gu_s rfl rfl]; exact nI_sub1 hr
  · rw [hp, ww_e rfl rfl, gu_s rfl rfl]; rfl
  · rw [hp, ww_n (by omega), mo_sw_n (by omega), gu_n (by omega), gu_n (by omega)]; exact r16
  · have m3 := mo_sw_3 (u := u) (c := j + 1)
    rw [e2] at m3
    simp (disch := omega) only [TA, kC, kP, kB, ww_n, ww_e, mo_sw_n, m3] at ta t9 ⊢
    exact ⟨ta.1, t9, ta.2.2⟩
  · refine TB_c (fun b hb' => ?_) (fun b j' hb' => ?_) (fun b hb' => ?_) (fun j' => ?_) tb
    · simp (disch := omega) only [kC, kP, kB, ww_n]
    · simp (disch := omega) only [kC, kP, kO, ww_n]
    · rw [ww_n (by omega), mo_sw_n (by omega)]
    · rw [ww_n (by omega), mo_sw_n (by omega)]
  · refine ⟨?_, ?_, fun b hb' => ?_⟩
    · simp (disch := omega) only [kC, kP, ww_n, ww_e, gu_n, gu_s]
    · have z := tk.2.1
      simp (disch := omega) only [kC, kP, ww_n, gu_n] at z ⊢; exact z
    · have z := tk.2.2 b hb'
      simp (disch := omega) only [kC, kP, kB, ww_n, gu_n] at z ⊢; exact z
  · have hG : gu (gu g 5 (j + 1) (1 - r)) 3 p 3 0 (j + 1) = p := by rw [gu_n (by omega), gu_n (by omega)]; exact hp
    refine ⟨fun z => absurd (hG.symm.trans z) h0, fun _ => ?_⟩
    rw [hG]
    refine ⟨?_, ?_, ?_, ?_, ?_, fun z => ?_⟩
    · rw [ww_e rfl rfl, gu_s rfl rfl]; rfl
    · simp (disch := omega) only [kP, kC, ww_n] at q2 ⊢; exact q2
    · simp (disch := omega) only [kP, kC, ww_n, gu_n] at q3 ⊢; exact q3
    · simp (disch := omega) only [kP, kC, ww_n, mo_sw_n] at q4 ⊢; exact q4
    · simp (disch := omega) only [kP, kC, ww_n, mo_sw_n, gu_n] at q5 ⊢; exact q5
    · rw [gu_s rfl rfl] at z; exact absurd z (by decide)
def g_fin (g : Nat → Nat → Nat) (s : Nat) : Nat → Nat → Nat := fun a b => if a = 0 then (if g 0 b ≠ 0 ∧ g 2 (g 0 b) = s then 0 else g 0 b) else if a = 6 then s else if a = 7 then (if g 0 b ≠ 0 ∧ g 2 (g 0 b) = s then g 0 b else 0) else g a b
theorem gf_n {g : Nat → Nat → Nat} {s a b : Nat} (h : a ≠ 0 ∧ a ≠ 6 ∧ a ≠ 7) : g_fin g s a b = g a b := by
  unfold g_fin; rw [if_neg h.1, if_neg h.2.1, if_neg h.2.2]
theorem gf_0 {g : Nat → Nat → Nat} {s b : Nat} : g_fin g s 0 b = if g 0 b ≠ 0 ∧ g 2 (g 0 b) = s then 0 else g 0 b := by unfold g_fin; rw [if_pos rfl]
theorem gf_6 {g : Nat → Nat → Nat} {s b : Nat} : g_fin g s 6 b = s := by unfold g_fin; rw [if_neg (by decide), if_pos rfl]
theorem gf_7 {g : Nat → Nat → Nat} {s b : Nat} : g_fin g s 7 b = if g 0 b ≠ 0 ∧ g 2 (g 0 b) = s then g 0 b else 0 := by unfold g_fin; rw [if_neg (by decide), if_neg (by decide), if_pos rfl]
theorem re_fin {n P s p0 : Nat} {v u : ww_U} {g : Nat → Nat → Nat} (h : Rg n P v u g) (hp1 : 1 ≤ p0) (hp2 : p0 ≤ P) (hpo : g 0 (g 1 p0) = p0) (hps : g 2 p0 = s) (hs0 : s ≠ 0) (h3 : ∀ p, 1 ≤ p → p ≤ P → g 2 p = s → g 3 p = 3) :
    Rg n P (cu_mls n 0 (nI s) v) (mo_chl P 1 (ww_up u 0 28 (nI s))) (g_fin g s) := by
  have hn := Rg_n h
  have hs : s ≤ 60 := by have := (h.1.2.1 p0 hp1 hp2).2.2.1; omega
  have lw := Lg_fin (G := g_fin g s) h.1 hp1 hp2 hpo hps hs0 h3 (fun b => gf_0) (fun b => gf_n (by decide)) (fun b => gf_n (by decide)) (fun b => gf_n (by decide)) (fun b => gf_n (by decide)) (fun b => gf_n (by decide)) (fun b => gf_6) (fun b => gf_7) (fun b => gf_n (by decide))
  have hU : ∀ a b, a ≠ 4 → ¬ (a = 0 ∧ b = 28) → mo_chl P 1 (ww_up u 0 28 (nI s)) a b = u a b := fun a b h1 h2 => by rw [mo_chl_n _ _ _ _ _ (Or.inl h1), ww_n (by omega)]
  have e28 : mo_chl P 1 (ww_up u 0 28 (nI s)) 0 28 = nI s := by rw [mo_chl_n _ _ _ _ _ (Or.inl (by decide)), ww_e rfl rfl]
  obtain ⟨lg, tt, tr, tn, tf, tc⟩ := h
  have h : Rg n P v u g := ⟨lg, tt, tr, tn, tf, tc⟩
  rw [mls_it]
  refine ⟨lw, TT_it (mls_1 _) (TT_u (fun b a1 a2 => hU 0 b (by decide) (by omega)) (fun a b a1 a2 => hU a b (by omega) (by omega)) tt), ⟨fun c hc => ⟨?_, ?_⟩, fun p hp => ?_, ?_⟩, fun c h1 h2 => ?_, fun p h1 h2 => ?_, fun i hi => TC_it (mls_1 _) (mls_2 _) hi ?_⟩
  · rw [gf_0]
    split
    · rename_i hm
      have hc1 : 1 ≤ c ∧ c ≤ n := by
        refine Decidable.byContradiction (fun z => hm.1 (lg.2.2.2.2.2.2.2.2.2.2.2.1 c (by omega)).1)
      have l1 := lg.1 c hc1.1 hc1.2
      have e := mo_chl_0 P 1 (ww_up u 0 28 (nI s)) (g 0 c) (by omega) (by omega) (by rw [ww_n (by omega), ww_e rfl rfl, (tr.2.1 _ (by omega)).2.1, hm.2])
      have e2 : mo_rd (ww_up u 0 28 (nI s)) 11 (g 0 c) = c := by
        have z := (rd_11 h (p := g 0 c) (by omega)).1
        unfold mo_rd at z ⊢
        rw [ww_n (by omega), z]
        exact (l1.2 hm.1).1
      rw [e2] at e
      exact e
    · rename_i hm
      rw [mo_chl_n _ _ _ _ _ (Or.inr ?_), ww_n (by omega)]
      · exact (tr.1 c hc).1
      · intro y a1 a2 a3 a4
        rw [ww_n (by omega), ww_e rfl rfl, (tr.2.1 y (by omega)).2.1] at a3
        have x2 := (lg.2.1 y (by omega) (by omega)).2.2.1
        have a3 := (nI_eq (by omega) (by omega)).mp a3
        have e2 : mo_rd (ww_up u 0 28 (nI s)) 11 y = g 1 y := by
          have z := (rd_11 h (p := y) (by omega)).1
          unfold mo_rd at z ⊢
          rw [ww_n (by omega), z]
        rw [e2] at a4
        have l3 := (lg.2.2.1 p0 y hp1 hp2 (by omega) (by omega) (hps.trans a3.symm) (by omega)).1 hpo
        rw [a4] at l3
        exact hm ⟨by omega, by rw [l3]; exact a3⟩
  · rw [hU 2 c (by decide) (by omega), gf_n (by decide)]; exact (tr.1 c hc).2
  · rw [hU 11 p (by decide) (by omega), hU 17 p (by decide) (by omega), hU 14 p (by decide) (by omega), hU 16 p (by decide) (by omega), gf_n (by decide), gf_n (by decide), gf_n (by decide), gf_n (by decide)]; exact tr.2.1 p hp
  · rw [e28, gf_6]
  · have z := tn c h1 h2
    rw [hU 3 c (by decide) (by omega), hU 5 c (by decide) (by omega), hU 6 c (by decide) (by omega)]
    exact ⟨z.1, z.2.1, z.2.2.1, fun b hb => by rw [hU 9 _ (by decide) (by omega)]; exact ⟨(z.2.2.2 b hb).1, fun j' hj' => by rw [hU 10 _ (by decide) (by omega)]; exact (z.2.2.2 b hb).2 j' hj'⟩⟩
  · rw [hU 15 p (by decide) (by omega), hU 18 p (by decide) (by omega)]; exact tf p h1 h2
  · have im := isOf_iff h hi hs
    obtain ⟨ta, tb, tk, tp⟩ := TC_u (u' := mo_chl P 1 (ww_up u 0 28 (nI s))) (fun a b h0 _ h4 _ _ _ _ h9 => hU a b h4 (by omega)) (tc i hi)
    generalize mo_chl P 1 (ww_up u 0 28 (nI s)) = u' at *
    unfold cs_mls
    rcases Decidable.em (cu_isOf v i (nI s) = 0) with c | c
    · rw [if_pos c]
      have nm : ¬ (g 0 (i + 1) ≠ 0 ∧ g 2 (g 0 (i + 1)) = s) := fun z => im.mpr z c
      have g0 : g_fin g s 0 (i + 1) = g 0 (i + 1) := by rw [gf_0, if_neg nm]
      have g7 : g_fin g s 7 (i + 1) = 0 := by rw [gf_7, if_neg nm]
      refine ⟨?_, ?_, ⟨?_, ?_, fun b hb => ?_⟩, TP_u g0 (fun _ => TQ_u rfl rfl rfl rfl (fun _ _ => rfl) (gf_n (by decide)) (gf_n (by decide))) ?_⟩
      · simp (disch := omega) only [TA, kC, ww_n] at ta ⊢; exact ta
      · simp (disch := omega) only [TB, kC, kB, kO, ww_n] at tb ⊢; exact tb
      · have z := tk.1
        rw [gf_n (by decide), ww_n (by omega)]; exact z
      · rw [g7, ww_e rfl rfl]; rfl
      · have z := tk.2.2 b hb
        rw [gf_n (by decide), ww_n (by simp only [kB, kC]; omega)]; exact z
      · simp (disch := omega) only [TP, TQ, kC, kP, kQ, ww_n] at tp ⊢; exact tp
    · rw [if_neg c]
      have nm := im.mp c
      have g0 : g_fin g s 0 (i + 1) = 0 := by rw [gf_0, if_pos nm]
      have g7 : g_fin g s 7 (i + 1) = g 0 (i + 1) := by rw [gf_7, if_pos nm]
      refine ⟨?_, ?_, ⟨?_, ?_, fun b hb => ?_⟩, fun _ => ww_e rfl rfl, fun z => absurd g0 z⟩
      · simp (disch := omega) only [TA, kC, kP, ww_n] at ta ⊢; exact ta
      · simp (disch := omega) only [TB, kC, kB, kO, kP, ww_n] at tb ⊢; exact tb
      · have z := tk.1
        rw [gf_n (by decide), ww_n (by simp only [kP, kC]; omega), ww_n (by omega)]; exact z
      · rw [g7, ww_n (by simp only [kP, kC]; omega), ww_e rfl rfl]; exact (tp.2 nm.1).2.1
      · have z := tk.2.2 b hb
        rw [gf_n (by decide), ww_n (by simp only [kB, kP]; omega), ww_n (by simp only [kB, kC]; omega)]; exact z
