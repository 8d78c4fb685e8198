/-! going back, joint -/
theorem ols_iff {n P i : Nat} {v u : ww_U} {g : Nat → Nat → Nat} (h : Rg n P v u g) (hi : i < n) : cu_ols v i ≠ 0 ↔ g 7 (i + 1) ≠ 0 := by
  have hn := Rg_n h
  have tk := (h.2.2.2.2.2 i hi).2.2.1
  have l6 := h.1.2.2.2.2.2.1 (i + 1) (by omega) (by omega)
  unfold cu_ols
  rw [tk.2.1]
  rcases Decidable.em (g 7 (i + 1) = 0) with c | c
  · rw [c, if_pos nI_0]; exact ⟨fun z => absurd rfl z, fun z => absurd rfl z⟩
  · have := l6 c
    rw [if_neg (nI_ne0 (by omega) (by omega))]; exact ⟨fun _ => c, fun _ => by decide⟩
theorem lst_iff {n P : Nat} {g : Nat → Nat → Nat} (h : Lg n P g) (hl : g 6 0 ≠ 0) {Q : Nat → Prop} : (∀ i, i < n → g 7 (i + 1) ≠ 0 → Q (g 7 (i + 1))) ↔ ∀ p, 1 ≤ p → p ≤ P → g 2 p = g 6 0 → Q p := by
  refine ⟨fun H p h1 h2 h3 => ?_, fun H i hi hm => ?_⟩
  · have l5 := (h.2.2.2.2.1 p h1 h2 h3 hl).2
    have l2 := h.2.1 p h1 h2
    have z := H (g 1 p - 1) (by omega)
    rw [show g 1 p - 1 + 1 = g 1 p by omega, l5] at z
    exact z (by omega)
  · have l6 := h.2.2.2.2.2.1 (i + 1) (by omega) (by omega) hm
    exact H _ (by omega) l6.1 l6.2.1
theorem has_g {n P : Nat} {v u : ww_U} {g : Nat → Nat → Nat} (h : Rg n P v u g) : cu_has n 0 v = 0 ↔ g 6 0 = 0 := by
  rw [has_iff]
  refine ⟨fun H => Decidable.byContradiction (fun hl => ?_), fun hl i _ hi => Decidable.byContradiction (fun z => ?_)⟩
  · obtain ⟨p, h1, h2, h3⟩ := h.1.2.2.2.1.2 hl
    have l5 := (h.1.2.2.2.2.1 p h1 h2 h3 hl).2
    have l2 := h.1.2.1 p h1 h2
    have z := (ols_iff h (i := g 1 p - 1) (by omega)).mpr (by rw [show g 1 p - 1 + 1 = g 1 p by omega, l5]; omega)
    exact z (H (g 1 p - 1) (by omega) (by omega))
  · have z := (ols_iff h (i := i) (by omega)).mp z
    exact (h.1.2.2.2.2.2.1 (i + 1) (by omega) (by omega) z).2.2.2 hl
theorem le0_g {n P : Nat} {v u : ww_U} {g : Nat → Nat → Nat} (h : Rg n P v u g) : u 0 28 ≤ 0 ↔ g 6 0 = 0 := by
  have hn := Rg_n h
  have l4 := h.1.2.2.2.1.1
  rw [h.2.2.1.2.2]
  rcases Decidable.em (g 6 0 = 0) with c | c
  · rw [c, nI_0]; exact ⟨fun _ => rfl, fun _ => by decide⟩
  · exact ⟨fun z => absurd z (nI_nle (by omega) (by omega)), fun z => absurd z c⟩
theorem is_g {n P : Nat} {v u : ww_U} {g : Nat → Nat → Nat} (h : Rg n P v u g) : (if u 0 28 ≤ 0 then (0 : Int32) else 1) ≠ 0 ↔ g 6 0 ≠ 0 := by
  have z := le0_g h
  rcases Decidable.em (g 6 0 = 0) with c | c
  · rw [if_pos (z.mpr c)]; exact ⟨fun z => absurd rfl z, fun z => absurd c z⟩
  · rw [if_neg (fun y => c (z.mp y))]; exact ⟨fun _ => c, fun _ => by decide⟩
theorem re_joint {n P : Nat} {v u : ww_U} (h : Rel n P v u) : cu_joint n v = mo_joint P u := by
  have h := Rel_z h
  unfold cu_joint mo_joint
  rw [show u 0 28 = mo_z u 0 28 from (ww_n (by omega)).symm]
  generalize mo_z u = u at h ⊢
  obtain ⟨g, h⟩ := h
  have hn := Rg_n h
  have hh := has_g h
  have hj := jl_iff (u := u) P 1 (if u 0 28 ≤ 0 then 0 else 1)
  have hi := is_g h
  rcases Decidable.em (g 6 0 = 0) with c | c
  · rw [if_pos (hh.mpr c), if_pos (Decidable.byContradiction (fun z => hi.mp (hj.mp z).1 c))]
  · rw [if_neg (fun z => c (hh.mp z))]
    have E := lst_iff h.1 c (Q := fun p => g 5 (g 1 p) = g 4 p)
    have hjt : cu_jt n 0 v ≠ 0 ↔ ∀ i, i < n → g 7 (i + 1) ≠ 0 → g 5 (g 1 (g 7 (i + 1))) = g 4 (g 7 (i + 1)) := by
      rw [jt_iff]
      have key : ∀ i, i < n → g 7 (i + 1) ≠ 0 → ((v (kB i (cu_b v i)) 2 = v (kC i) 9) ↔ g 5 (g 1 (g 7 (i + 1))) = g 4 (g 7 (i + 1))) := by
        intro i hi h7
        have l6 := h.1.2.2.2.2.2.1 (i + 1) (by omega) (by omega) h7
        have l9 := (h.1.2.2.2.2.2.2.2.2.1 (i + 1) (by omega) (by omega) h7).1
        have r := Lg_5 (c := i + 1) h.1
        have l7 := h.1.2.2.2.2.2.2.1 (i + 1) (g 5 (i + 1)) (by omega) (by omega) r
        have tk := (h.2.2.2.2.2 i hi).2.2.1
        rw [b_eq h hi, tk.2.2 _ r, tk.2.1, l6.2.2.1]
        have b8 : g 8 (2 * (i + 1) + g 5 (i + 1)) ≤ P := by
          rcases Decidable.em (g 8 (2 * (i + 1) + g 5 (i + 1)) = 0) with e | e
          · omega
          · exact (l7 e).1
        rw [nI_eq (by omega) (by omega)]
        refine ⟨fun e => ?_, fun e => ?_⟩
        · have z := (l7 (by rw [e]; exact h7)).2.2.1
          rw [e] at z
          exact z.symm
        · rw [e]; exact l9
      exact ⟨fun H i hi h7 => (key i hi h7).mp (H i (by omega) (by omega) ((ols_iff h hi).mpr h7)), fun H i _ hi h7 => (key i (by omega) ((ols_iff h (by omega)).mp h7)).mpr (H i (by omega) ((ols_iff h (by omega)).mp h7))⟩
    have hall : (∀ i, 1 ≤ i → i < 1 + P → (u 17 i = u 0 28 → u 2 (mo_rd u 11 i) = u 16 i)) ↔ ∀ p, 1 ≤ p → p ≤ P → g 2 p = g 6 0 → g 5 (g 1 p) = g 4 p := by
      have l4 := h.1.2.2.2.1.1
      have key : ∀ p, 1 ≤ p → p ≤ P → ((u 17 p = u 0 28 ↔ g 2 p = g 6 0) ∧ (u 2 (mo_rd u 11 p) = u 16 p ↔ g 5 (g 1 p) = g 4 p)) := by
        intro p a1 a2
        have t := h.2.2.1.2.1 p (by omega)
        have y := h.1.2.1 p a1 a2
        have r := Lg_5 (c := g 1 p) h.1
        have r4 := h.1.2.2.2.2.2.2.2.2.2.2.1 p
        rw [t.2.1, h.2.2.1.2.2, (rd_11 h (p := p) (by omega)).1, (h.2.2.1.1 (g 1 p) (by omega)).2, t.2.2.2]
        exact ⟨nI_eq (by omega) (by omega), nI_eq (by omega) (by omega)⟩
      exact ⟨fun H p a1 a2 a3 => (key p a1 a2).2.mp (H p a1 (by omega) ((key p a1 a2).1.mpr a3)), fun H p a1 a2 a3 => (key p a1 (by omega)).2.mpr (H p a1 (by omega) ((key p a1 (by omega)).1.mp a3))⟩
    rcases Decidable.em (cu_jt n 0 v = 0) with d | d
    · rw [d, if_pos (Decidable.byContradiction (fun z => hjt.mpr (E.mpr (hall.mp (hj.mp z).2)) d))]
    · rw [if_neg (hj.mpr ⟨hi.mpr c, hall.mpr (E.mp (hjt.mp d))⟩)]
      exact (jt_01 n 0).resolve_left d
def g_bk (g : Nat → Nat → Nat) : Nat → Nat → Nat := fun a b => if a = 5 then (if g 7 b = 0 then g 5 b else 1 - g 5 b) else if a = 6 then 0 else if a = 7 then 0 else g a b
theorem gb_n {g : Nat → Nat → Nat} {a b : Nat} (h : a ≠ 5 ∧ a ≠ 6 ∧ a ≠ 7) : g_bk g a b = g a b := by
  unfold g_bk; rw [if_neg h.1, if_neg h.2.1, if_neg h.2.2]
theorem gb_5 {g : Nat → Nat → Nat} {b : Nat} : g_bk g 5 b = if g 7 b = 0 then g 5 b else 1 - g 5 b := by unfold g_bk; rw [if_pos rfl]
theorem gb_6 {g : Nat → Nat → Nat} {b : Nat} : g_bk g 6 b = 0 := by unfold g_bk; rw [if_neg (by decide), if_pos rfl]
theorem gb_7 {g : Nat → Nat → Nat} {b : Nat} : g_bk g 7 b = 0 := by unfold g_bk; rw [if_neg (by decide), if_neg (by decide), if_pos rfl]
theorem re_rb {n P : Nat} {v u : ww_U} {g : Nat → Nat → Nat} (h : Rg n P v u g) (hl : g 6 0 ≠ 0) (hz : ∀ i, i < n → g 7 (i + 1) ≠ 0 → g 0 (i + 1) = 0) : Rg n P (cu_rb n 0 v) (ww_up (mo_rl P 1 u) 0 28 0) (g_bk g) := by
  have hn := Rg_n h
  obtain ⟨lg, tt, tr, tn, tf, tc⟩ := h
  have h : Rg n P v u g := ⟨lg, tt, tr, tn, tf, tc⟩
  have lw := Lg_back (G := g_bk g) lg (fun c h1 h2 h3 => by have z := hz (c - 1) (by omega); rw [show c - 1 + 1 = c by omega] at z; exact z h3) (fun b => gb_n (by decide)) (fun b => gb_n (by decide)) (fun b => gb_n (by decide)) (fun b => gb_n (by decide)) (fun b => gb_n (by decide)) (fun b => gb_5) (fun b => gb_6) (fun b => gb_7) (fun b => gb_n (by decide))
  have l4 := lg.2.2.2.1.1
  have m1 : ∀ y, 1 ≤ y → y ≤ P → u 17 y = u 0 28 → g 7 (g 1 y) = y := by
    intro y a1 a2 a3
    rw [(tr.2.1 y (by omega)).2.1, tr.2.2] at a3
    have x2 := (lg.2.1 y a1 a2).2.2.1
    exact (lg.2.2.2.2.1 y a1 a2 ((nI_eq (by omega) (by omega)).mp a3) hl).2
  have fN : ∀ a c, (a ≠ 2 ∧ a ≠ 3) ∨ g 7 c = 0 → mo_rl P 1 u a c = u a c := by
    intro a c hc
    refine mo_rl_n P 1 u a c ?_
    rcases hc with hc | hc
    · exact Or.inl hc
    · refine Or.inr (fun y a1 a2 a3 a4 => ?_)
      have z := m1 y a1 (by omega) a3
      rw [(rd_11 h (p := y) (by omega)).1] at a4
      rw [a4] at z
      omega
  have fM : ∀ c, 1 ≤ c → c ≤ n → g 7 c ≠ 0 → mo_rl P 1 u 2 c = nI (1 - g 5 c) ∧ mo_rl P 1 u 3 c = u 9 (2 * c + (1 - g 5 c)) := by
    intro c a1 a2 a3
    have l6 := lg.2.2.2.2.2.1 c a1 a2 a3
    have e17 : u 17 (g 7 c) = u 0 28 := by rw [(tr.2.1 _ (by omega)).2.1, tr.2.2, l6.2.1]
    have z := mo_rl_at P 1 u (g 7 c) (by omega) (by omega) e17 (fun y y' b1 b2 b3 b4 b5 b6 b7 => by
      have y1 := m1 y b1 (by omega) b5
      have y2 := m1 y' b3 (by omega) b6
      rw [(rd_11 h (p := y) (by omega)).1, (rd_11 h (p := y') (by omega)).1] at b7
      rw [← y1, ← y2, b7])
    rw [(rd_11 h (p := g 7 c) (by omega)).1, l6.2.2.1, rd_2 h (c := c) (by omega), (tr.1 c (by omega)).2, nI_sub1 (Lg_5 lg)] at z
    exact z
  have hU : ∀ a b, a ≠ 2 → a ≠ 3 → ¬ (a = 0 ∧ b = 28) → ww_up (mo_rl P 1 u) 0 28 0 a b = u a b := fun a b h1 h2 h3 => by rw [ww_n (by omega), fN a b (Or.inl ⟨h1, h2⟩)]
  rw [rb_it]
  refine ⟨lw, TT_it rb_1 (TT_u (fun b a1 a2 => hU 0 b (by decide) (by decide) (by omega)) (fun a b a1 a2 => hU a b (by omega) (by omega) (by omega)) tt), ⟨fun c hc => ⟨?_, ?_⟩, fun p hp => ?_, ?_⟩, fun c h1 h2 => ?_, fun p h1 h2 => ?_, fun i hi => TC_it rb_1 rb_2 hi ?_⟩
  · rw [hU 4 c (by decide) (by decide) (by omega), gb_n (by decide)]; exact (tr.1 c hc).1
  · rw [gb_5, ww_n (by omega)]
    split
    · rename_i e
      rw [fN 2 c (Or.inr e)]; exact (tr.1 c hc).2
    · rename_i e
      have hc1 : 1 ≤ c ∧ c ≤ n := Decidable.byContradiction (fun z => e (lg.2.2.2.2.2.2.2.2.2.2.2.1 c (by omega)).2.2.1)
      exact (fM c hc1.1 hc1.2 e).1
  · rw [hU 11 p (by decide) (by decide) (by omega), hU 17 p (by decide) (by decide) (by omega), hU 14 p (by decide) (by decide) (by omega), hU 16 p (by decide) (by decide) (by omega), gb_n (by decide), gb_n (by decide), gb_n (by decide), gb_n (by decide)]; exact tr.2.1 p hp
  · rw [ww_e rfl rfl, gb_6]; rfl
  · have z := tn c h1 h2
    have e := (lg.2.2.2.2.2.2.2.2.2.2.2.1 c (by omega)).2.2.1
    rw [ww_n (by omega), fN 3 c (Or.inr e), hU 5 c (by decide) (by decide) (by omega), hU 6 c (by decide) (by decide) (by omega)]
    exact ⟨z.1, z.2.1, z.2.2.1, fun b hb => by rw [hU 9 _ (by decide) (by decide) (by omega)]; exact ⟨(z.2.2.2 b hb).1, fun j' hj' => by rw [hU 10 _ (by decide) (by decide) (by omega)]; exact (z.2.2.2 b hb).2 j' hj'⟩⟩
  · rw [hU 15 p (by decide) (by decide) (by omega), hU 18 p (by decide) (by decide) (by omega)]; exact tf p h1 h2
  · have im := ols_iff h hi
    have r := Lg_5 (c := i + 1) lg
    have eb := b_eq h hi
    obtain ⟨ta, tb, tk, tp⟩ := tc i hi
    have tb' : TB v (ww_up (mo_rl P 1 u) 0 28 0) i := TB_u (fun b hb => hU 9 _ (by decide) (by decide) (by omega)) (fun b j hb hj => hU 10 _ (by decide) (by decide) (by omega)) tb
    have u3 : ww_up (mo_rl P 1 u) 0 28 0 3 (i + 1) = mo_rl P 1 u 3 (i + 1) := ww_n (by omega)
    have hTA : ∀ a, a = 1 ∨ a = 5 ∨ a = 6 ∨ a = 7 ∨ a = 8 → ww_up (mo_rl P 1 u) 0 28 0 a (i + 1) = u a (i + 1) := fun a ha => hU a _ (by omega) (by omega) (by omega)
    unfold cs_rb
    rcases Decidable.em (cu_ols v i = 0) with c | c
    · rw [if_pos c]
      have e7 : g 7 (i + 1) = 0 := Decidable.byContradiction (fun z => im.mpr z c)
      refine ⟨TA_u (fun a ha => ?_) ta, tb', TK_g ?_ ?_ (fun b hb => gb_n (by decide)) tk, TP_u (gb_n (by decide)) (fun _ => TQ_u (hU 12 _ (by decide) (by decide) (by omega)) (hU 13 _ (by decide) (by decide) (by omega)) (hU 15 _ (by decide) (by decide) (by omega)) (hU 18 _ (by decide) (by decide) (by omega)) (fun _ _ => hU 19 _ (by decide) (by decide) (by omega)) (gb_n (by decide)) (gb_n (by decide))) tp⟩
      · rcases Decidable.em (a = 3) with e | e
        · subst e; rw [u3, fN 3 _ (Or.inr e7)]
        · exact hTA a (by omega)
      · rw [gb_5, if_pos e7]
      · rw [gb_7, e7]
    · rw [if_neg c]
      have e7 := im.mp c
      have e0 := hz i hi e7
      have t9 := (tb (1 - g 5 (i + 1)) (by omega)).1
      have m3 := (fM (i + 1) (by omega) (by omega) e7).2
      rw [m3] at u3
      unfold cu_other
      rw [eb, tk.1, nI_sub1 r]
      refine ⟨?_, ?_, ⟨?_, ?_, fun b hb => ?_⟩, fun _ => ?_, fun z => absurd (gb_n (by decide) |>.trans e0) z⟩
      · unfold TA
        rw [hTA 1 (by omega), hTA 5 (by omega), hTA 6 (by omega), hTA 7 (by omega), hTA 8 (by omega), u3, ← t9]
        simp (disch := omega) only [TA, kC, kB, ww_n, ww_e] at ta ⊢
        exact ⟨ta.1, trivial, ta.2.2⟩
      · refine TB_c (fun b hb' => ?_) (fun b j' hb' => ?_) (fun b hb' => rfl) (fun j' => rfl) tb'
        · simp (disch := omega) only [kC, kB, ww_n]
        · simp (disch := omega) only [kC, kO, ww_n]
      · rw [gb_5, if_neg e7]; simp (disch := omega) only [kC, ww_n, ww_e]
      · rw [gb_7, ww_e rfl rfl]; rfl
      · have z := tk.2.2 b hb
        rw [gb_n (by decide)]
        simp (disch := omega) only [kC, kB, ww_n] at z ⊢; exact z
      · have z := tp.1 e0
        simp (disch := omega) only [kC, kP, ww_n] at z ⊢; exact z
theorem re_rollback {n P : Nat} {v u : ww_U} (h : Rel n P v u) : (cu_rollback n v).2 = (mo_rollback P u).2 ∧ Rel n P (cu_rollback n v).1 (mo_rollback P u).1 := by
  have h := Rel_z h
  unfold cu_rollback mo_rollback
  rw [show u 0 28 = mo_z u 0 28 from (ww_n (by omega)).symm]
  generalize mo_z u = u at h ⊢
  obtain ⟨g, h⟩ := h
  have hn := Rg_n h
  have hh := has_g h
  have hj := rm_iff (u := u) P 1 (if u 0 28 ≤ 0 then 0 else 1)
  have hi := is_g h
  rcases Decidable.em (g 6 0 = 0) with c | c
  · rw [if_pos (hh.mpr c), if_pos (Decidable.byContradiction (fun z => hi.mp (hj.mp z).1 c))]; exact ⟨rfl, g, h⟩
  · rw [if_neg (fun z => c (hh.mp z))]
    have E := lst_iff h.1 c (Q := fun p => mo_th u (g 1 p) ≠ 0 ∧ g 0 (g 1 p) = 0)
    have l4 := h.1.2.2.2.1.1
    have hmay : cu_may n 0 v ≠ 0 ↔ ∀ i, i < n → g 7 (i + 1) ≠ 0 → mo_th u (g 1 (g 7 (i + 1))) ≠ 0 ∧ g 0 (g 1 (g 7 (i + 1))) = 0 := by
      rw [may_iff]
      have key : ∀ i, i < n → g 7 (i + 1) ≠ 0 → ((cu_away v i = 0 ∧ v (kP i) 4 = 0) ↔ mo_th u (g 1 (g 7 (i + 1))) ≠ 0 ∧ g 0 (g 1 (g 7 (i + 1))) = 0) := by
        intro i hi h7
        have l6 := h.1.2.2.2.2.2.1 (i + 1) (by omega) (by omega) h7
        rw [l6.2.2.1, th_eq h hi]
        refine ⟨fun z => ⟨z.1, Decidable.byContradiction (fun e => ?_)⟩, fun z => ⟨z.1, (h.2.2.2.2.2 i hi).2.2.2.1 z.2⟩⟩
        have y := st_g h hi e
        rw [z.2] at y
        exact nI_ne0 (by omega) (by omega) y.1.symm
      exact ⟨fun H i hi h7 => (key i hi h7).mp (H i (by omega) (by omega) ((ols_iff h hi).mpr h7)), fun H i _ hi h7 => (key i (by omega) ((ols_iff h (by omega)).mp h7)).mpr (H i (by omega) ((ols_iff h (by omega)).mp h7))⟩
    have hall : (∀ i, 1 ≤ i → i < 1 + P → (u 17 i = u 0 28 → mo_th u (mo_rd u 11 i) ≠ 0 ∧ ¬ 0 < u 4 (mo_rd u 11 i))) ↔ ∀ p, 1 ≤ p → p ≤ P → g 2 p = g 6 0 → mo_th u (g 1 p) ≠ 0 ∧ g 0 (g 1 p) = 0 := by
      have key : ∀ p, 1 ≤ p → p ≤ P → ((u 17 p = u 0 28 ↔ g 2 p = g 6 0) ∧ ((mo_th u (mo_rd u 11 p) ≠ 0 ∧ ¬ 0 < u 4 (mo_rd u 11 p)) ↔ mo_th u (g 1 p) ≠ 0 ∧ g 0 (g 1 p) = 0)) := by
        intro p a1 a2
        have t := h.2.2.1.2.1 p (by omega)
        have y := h.1.2.1 p a1 a2
        have l1 := (h.1.1 (g 1 p) (by omega) (by omega)).1
        rw [t.2.1, h.2.2.1.2.2, (rd_11 h (p := p) (by omega)).1, (h.2.2.1.1 (g 1 p) (by omega)).1]
        refine ⟨nI_eq (by omega) (by omega), ⟨fun z => ⟨z.1, Decidable.byContradiction (fun e => z.2 ?_)⟩, fun z => ⟨z.1, ?_⟩⟩⟩
        · exact nI_lt (a := 0) (by omega) (by omega)
        · rw [z.2]; decide
      exact ⟨fun H p a1 a2 a3 => (key p a1 a2).2.mp (H p a1 (by omega) ((key p a1 a2).1.mpr a3)), fun H p a1 a2 a3 => (key p a1 (by omega)).2.mpr (H p a1 (by omega) ((key p a1 (by omega)).1.mp a3))⟩
    rcases Decidable.em (cu_may n 0 v = 0) with d | d
    · rw [if_pos d, if_pos (Decidable.byContradiction (fun z => hmay.mpr (E.mpr (hall.mp (hj.mp z).2)) d))]; exact ⟨rfl, g, h⟩
    · have HH := hmay.mp d
      rw [if_neg d, if_neg (hj.mpr ⟨hi.mpr c, hall.mpr (E.mp HH)⟩)]
      refine ⟨rfl, _, re_rb h c (fun i hi h7 => ?_)⟩
      have z := (HH i hi h7).2
      rw [(h.1.2.2.2.2.2.1 (i + 1) (by omega) (by omega) h7).2.2.1] at z
      exact z
