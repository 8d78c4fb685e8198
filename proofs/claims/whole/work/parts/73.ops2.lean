/-! writing a block -/
theorem cu_wl_at {i b : Nat} (hb : b < 2) : ∀ (d k : Nat) (f : Int32) (v : ww_U) (a c : Nat), cu_wl d k i b f v a c = if a = kO i b ∧ k ≤ c ∧ c < k + d then (v (kQ i) c ^^^ f).toInt8.toInt32 else v a c
  | 0, k, f, v, a, c => by rw [if_neg (by omega)]; rfl
  | d + 1, k, f, v, a, c => by
    simp only [cu_wl]
    rw [cu_wl_at hb d (k + 1) f _ a c, nar_b, i8_8, ww_n (a := kQ i) (by simp only [kQ, kO]; omega), ww_v]
    rcases Decidable.em (a = kO i b ∧ k + 1 ≤ c ∧ c < k + 1 + d) with h | h
    · rw [if_pos h, if_pos (by omega)]
    · rw [if_neg h]
      rcases Decidable.em (a = kO i b ∧ c = k) with h' | h'
      · rw [if_pos h', if_pos (by omega), h'.2]
      · rw [if_neg h', if_neg (by omega)]
theorem mo_wl_at {bs p : Nat} : ∀ (d k : Nat) (f : Int32) (u : ww_U) (a c : Nat), mo_wl d k bs p f u a c = if a = 10 ∧ bs + k ≤ c ∧ c < bs + k + d then u 19 (256 * p + (c - bs)) ^^^ f else u a c
  | 0, k, f, u, a, c => by rw [if_neg (by omega)]; rfl
  | d + 1, k, f, u, a, c => by
    simp only [mo_wl]
    rw [mo_wl_at d (k + 1) f _ a c, ww_n (a := 19) (by omega), ww_v]
    rcases Decidable.em (a = 10 ∧ bs + (k + 1) ≤ c ∧ c < bs + (k + 1) + d) with h | h
    · rw [if_pos h, if_pos (by omega)]
    · rw [if_neg h]
      rcases Decidable.em (a = 10 ∧ c = bs + k) with h' | h'
      · rw [if_pos h', if_pos (by omega), h'.2, show bs + k - bs = k by omega]
      · rw [if_neg h', if_neg (by omega)]
theorem cu_zero_at {i b : Nat} : ∀ (d k : Nat) (v : ww_U) (a c : Nat), cu_zero d k i b v a c = if a = kO i b ∧ k ≤ c ∧ c < k + d then 0 else v a c
  | 0, k, v, a, c => by rw [if_neg (by omega)]; rfl
  | d + 1, k, v, a, c => by
    simp only [cu_zero]
    rw [cu_zero_at d (k + 1) _ a c, ww_v]
    rcases Decidable.em (a = kO i b ∧ k + 1 ≤ c ∧ c < k + 1 + d) with h | h
    · rw [if_pos h, if_pos (by omega)]
    · rw [if_neg h]
      rcases Decidable.em (a = kO i b ∧ c = k) with h' | h'
      · rw [if_pos h', if_pos (by omega)]; rfl
      · rw [if_neg h', if_neg (by omega)]
theorem mo_zl_at {bs : Nat} : ∀ (d k : Nat) (u : ww_U) (a c : Nat), mo_zl d k bs u a c = if a = 10 ∧ bs + k ≤ c ∧ c < bs + k + d then 0 else u a c
  | 0, k, u, a, c => by rw [if_neg (by omega)]; rfl
  | d + 1, k, u, a, c => by
    simp only [mo_zl]
    rw [mo_zl_at d (k + 1) _ a c, ww_v]
    rcases Decidable.em (a = 10 ∧ bs + (k + 1) ≤ c ∧ c < bs + (k + 1) + d) with h | h
    · rw [if_pos h, if_pos (by omega)]
    · rw [if_neg h]
      rcases Decidable.em (a = 10 ∧ c = bs + k) with h' | h'
      · rw [if_pos h', if_pos (by omega)]
      · rw [if_neg h', if_neg (by omega)]
theorem cu_wl_n {i b d k a c : Nat} {f : Int32} {v : ww_U} (hb : b < 2) (h : a ≠ 36 + 8 * i + 2 + 2 * b + 1) : cu_wl d k i b f v a c = v a c := by
  rw [cu_wl_at hb, if_neg (by simp only [kO]; omega)]
theorem mo_wl_n {bs p d k a c : Nat} {f : Int32} {u : ww_U} (h : a ≠ 10) : mo_wl d k bs p f u a c = u a c := by
  rw [mo_wl_at, if_neg (by omega)]
theorem cu_zero_n {i b d k a c : Nat} {v : ww_U} (h : a ≠ 36 + 8 * i + 2 + 2 * b + 1) : cu_zero d k i b v a c = v a c := by
  rw [cu_zero_at, if_neg (by simp only [kO]; omega)]
theorem mo_zl_n {bs d k a c : Nat} {u : ww_U} (h : a ≠ 10) : mo_zl d k bs u a c = u a c := by
  rw [mo_zl_at, if_neg (by omega)]
theorem x_255 (a f : Int32) : (a &&& 255) ^^^ (f &&& 255) = (a ^^^ f).toInt8.toInt32 &&& 255 := by
  rw [bp_b]
  refine b_ext (fun i hi => ?_)
  rw [b_xor, b_and, b_and, b_and, b_xor]
  cases bt a i <;> cases bt f i <;> cases bt 255 i <;> rfl
theorem TB_wl {v u : ww_U} {i b d k len p : Nat} {fv fu : Int32} (hb : b < 2) (hk : k + d ≤ len) (hlen : len ≤ 256) (ho : ∀ j, j < len → u 19 (256 * p + j) = v (kQ i) j &&& 255) (hf : fu = fv &&& 255) (tb : TB v u i) : TB (cu_wl d k i b fv v) (mo_wl d k (512 * (i + 1) + 256 * b) p fu u) i := by
  intro b' hb'
  have z := tb b' hb'
  refine ⟨?_, fun j hj => ?_⟩
  · rw [cu_wl_n hb (by simp only [kB]; omega), mo_wl_n (by omega)]; exact z.1
  · rw [cu_wl_at hb, mo_wl_at]
    rcases Decidable.em (b' = b ∧ k ≤ j ∧ j < k + d) with h | h
    · obtain ⟨rfl, h1, h2⟩ := h
      rw [if_pos ⟨rfl, by omega, by omega⟩, if_pos ⟨rfl, h1, h2⟩, show 512 * (i + 1) + 256 * b' + j - (512 * (i + 1) + 256 * b') = j by omega, ho j (by omega), hf, x_255]
      exact ⟨rfl, i8_8 _⟩
    · rw [if_neg (by omega), if_neg (by simp only [kO]; omega)]; exact z.2 j hj
theorem TB_zero {v u : ww_U} {i b d k : Nat} (hb : b < 2) (hk : k + d ≤ 256) (tb : TB v u i) : TB (cu_zero d k i b v) (mo_zl d k (512 * (i + 1) + 256 * b) u) i := by
  intro b' hb'
  have z := tb b' hb'
  refine ⟨?_, fun j hj => ?_⟩
  · rw [cu_zero_n (by simp only [kB]; omega), mo_zl_n (by omega)]; exact z.1
  · rw [cu_zero_at, mo_zl_at]
    rcases Decidable.em (b' = b ∧ k ≤ j ∧ j < k + d) with h | h
    · obtain ⟨rfl, h1, h2⟩ := h
      rw [if_pos ⟨rfl, by omega, by omega⟩, if_pos ⟨rfl, h1, h2⟩]
      exact ⟨rfl, rfl⟩
    · rw [if_neg (by omega), if_neg (by simp only [kO]; omega)]; exact z.2 j hj
theorem TB_c {v v' u u' : ww_U} {i : Nat} (hB : ∀ b, b < 2 → v' (kB i b) 1 = v (kB i b) 1) (hO : ∀ b j, b < 2 → v' (kO i b) j = v (kO i b) j) (h9 : ∀ b, b < 2 → u' 9 (2 * (i + 1) + b) = u 9 (2 * (i + 1) + b)) (h10 : ∀ j, u' 10 j = u 10 j) (tb : TB v u i) : TB v' u' i := by
  intro b hb
  have z := tb b hb
  rw [hB b hb, h9 b hb]
  exact ⟨z.1, fun j hj => by rw [hO b j hb, h10]; exact z.2 j hj⟩
theorem st_eq {n P j : Nat} {v u : ww_U} {g : Nat → Nat → Nat} (h : Rg n P v u g) (hj : j < n) : v (kP j) 4 = mo_st u (j + 1) := by
  have hn : n ≤ 8 := h.2.1.1.1
  have hP : P ≤ 60 := h.2.1.1.2.1
  have tp := (h.2.2.2.2.2 j hj).2.2.2
  have l1 := h.1.1 (j + 1) (by omega) (by omega)
  have e := (h.2.2.1.1 (j + 1) (by omega)).1
  unfold mo_st mo_rd
  rw [e, nI_clamp (by omega)]
  rcases Decidable.em (g 0 (j + 1) = 0) with c | c
  · rw [c, if_pos nI_0]; exact tp.1 c
  · rw [if_neg (nI_ne0 (by omega) (by omega)), (tp.2 c).1]
    exact (h.2.2.1.2.1 _ (by omega)).2.2.1.symm
theorem gu_n {g : Nat → Nat → Nat} {k j x a b : Nat} (h : a ≠ k ∨ b ≠ j) : gu g k j x a b = g a b := by rw [gu_e, if_neg (by omega)]
theorem gu_s {g : Nat → Nat → Nat} {k j x a b : Nat} (h : a = k) (h' : b = j) : gu g k j x a b = x := by rw [gu_e, if_pos ⟨h, h'⟩]
theorem re_wrt {n P j : Nat} {v u : ww_U} {g : Nat → Nat → Nat} (h : Rg n P v u g) (hj : j < n) (h0 : g 0 (j + 1) ≠ 0) (h3 : g 3 (g 0 (j + 1)) = 1) : Rel n P (cu_wrt v j) (mo_wrt u (j + 1)) := by
  have hn : n ≤ 8 := h.2.1.1.1
  have hP : P ≤ 60 := h.2.1.1.2.1
  have l1 := h.1.1 (j + 1) (by omega) (by omega)
  have hr : g 5 (j + 1) < 2 := h.1.2.2.2.2.2.2.2.2.2.1 (j + 1)
  obtain ⟨ta, tb, tk, tp⟩ := h.2.2.2.2.2 j hj
  obtain ⟨q1, q2, q3, q4, q5, q6⟩ := tp.2 h0
  obtain ⟨w, len, e1, e2, e3, e4, e5, e6, e7⟩ := q6 h3
  have r4 := (h.2.2.1.1 (j + 1) (by omega)).1
  have r2 := (h.2.2.1.1 (j + 1) (by omega)).2
  generalize hp : g 0 (j + 1) = p at *
  generalize hrr : g 5 (j + 1) = r at *
  have hb : 1 - r < 2 := by omega
  have x1 : cu_b v j = r := by unfold cu_b; rw [tk.1, hrr, nI_clamp (by omega)]
  have x2 : mo_rd u 4 (j + 1) = p := by unfold mo_rd; rw [r4, nI_clamp (by omega)]
  have x3 : mo_rd u 2 (j + 1) = r := by unfold mo_rd; rw [r2, nI_clamp (by omega)]
  have x4 : mo_rd u 15 p = w := by unfold mo_rd; rw [e2, nI_clamp (by omega)]
  have x5 : mo_rd u 13 p = len := by unfold mo_rd; rw [e4, nI_clamp (by omega)]
  unfold cu_wrt mo_wrt
  rw [x1, x2, x3, x4, x5, e1, e3, nI_clamp (by omega), nI_clamp (by omega)]
  have hc : (v (kC j) 8 ≠ 0 ∧ v (kC j) 7 = v (kP j) 5) ↔ u 7 (j + 1) = u 15 p := by
    rw [e1, e2]
    rcases Decidable.em (v (kC j) 8 = 0) with c | c
    · rw [ta.2.2.2.2.1 c]
      refine ⟨fun z => absurd c z.1, fun z => ?_⟩
      exact absurd (show nI w < 0 by rw [← z]; decide) (nI_pos (by omega))
    · rw [(ta.2.2.2.2.2 c).1]
      exact ⟨fun z => z.2, fun z => ⟨c, z⟩⟩
  have hk : 16 * w + (min (16 * w + 16) len - 16 * w) ≤ len := by omega
  unfold cu_write mo_write
  rcases Decidable.em (u 7 (j + 1) = u 15 p) with c | c
  · rw [if_pos (hc.mpr c), if_pos c]
    have c8 := (hc.mpr c).1
    have tb' := TB_wl (d := min (16 * w + 16) len - 16 * w) (k := 16 * w) hb hk e6 e7 (ta.2.2.2.2.2 c8).2 tb
    refine ⟨g, Rg_g hj h (fun a b hb' => ?_) (fun a b h0 h1 h2 h3 h4 => ?_) ⟨?_, ?_, ?_, ?_⟩⟩
    · simp only [blk] at hb'; simp (disch := omega) only [kC, ww_n, cu_wl_n]
    · rw [ww_n (by omega), mo_wl_at, if_neg (by omega)]
    · simp (disch := omega) only [TA, kC, ww_n, ww_e, cu_wl_n, mo_wl_n] at ta ⊢
      exact ⟨ta.1, ta.2.1, ta.2.2.1, ta.2.2.2.1, fun _ => trivial, fun z => absurd rfl z⟩
    · refine TB_c (fun b hb' => ?_) (fun b j' hb' => ?_) (fun b hb' => ?_) (fun j' => ?_) tb' <;> exact ww_n (by (try simp only [kC, kB, kO]); omega)
    · simp (disch := omega) only [TK, kC, kB, kO, ww_n, cu_wl_n, hrr] at tk ⊢; exact tk
    · simp (disch := omega) only [TP, TQ, kC, kP, kQ, ww_n, cu_wl_n, mo_wl_n, hp] at tp ⊢; exact tp
  · rw [if_neg (fun z => c (hc.mp z)), if_neg c, e1, nI_1]
    have tb' := TB_wl (fv := 0) (fu := 0) (d := min (16 * w + 16) len - 16 * w) (k := 16 * w) hb hk e6 e7 rfl tb
    rcases Decidable.em (16 * w + 16 < len) with c2 | c2
    · rw [if_pos c2, if_pos c2]
      refine ⟨g, Rg_g hj h (fun a b hb' => ?_) (fun a b h0 h1 h2 h3 h4 => ?_) ⟨?_, ?_, ?_, ?_⟩⟩
      · simp only [blk] at hb'; simp (disch := omega) only [kP, ww_n, cu_wl_n]
      · rw [ww_n (by omega), mo_wl_at, if_neg (by omega)]
      · simp (disch := omega) only [TA, kC, kP, ww_n, ww_e, cu_wl_n, mo_wl_n] at ta ⊢; exact ta
      · refine TB_c (fun b hb' => ?_) (fun b j' hb' => ?_) (fun b hb' => ?_) (fun j' => ?_) tb' <;> exact ww_n (by (try simp only [kP, kB, kO]); omega)
      · simp (disch := omega) only [TK, kC, kP, kB, kO, ww_n, cu_wl_n, hrr] at tk ⊢; exact tk
      · refine ⟨fun z => absurd z (by omega), fun _ => ?_⟩
        rw [hp]
        refine ⟨?_, ?_, ?_, ?_, ?_, fun _ => ⟨w + 1, len, ?_, ?_, ?_, ?_, by omega, e6, fun j' hj' => ?_⟩⟩
        · simp (disch := omega) only [kP, ww_n, cu_wl_n] at q1 ⊢; exact q1
        · simp (disch := omega) only [kP, ww_n, cu_wl_n] at q2 ⊢; exact q2
        · simp (disch := omega) only [kP, ww_n, cu_wl_n] at q3 ⊢; exact q3
        · simp (disch := omega) only [kP, ww_n, cu_wl_n, mo_wl_n] at q4 ⊢; exact q4
        · simp (disch := omega) only [kP, ww_n, cu_wl_n, mo_wl_n] at q5 ⊢; exact q5
        · exact ww_e rfl rfl
        · exact ww_e rfl rfl
        · simp (disch := omega) only [kP, ww_n, cu_wl_n] at e3 ⊢; exact e3
        · simp (disch := omega) only [ww_n, mo_wl_n]; exact e4
        · have z := e7 j' hj'
          simp (disch := omega) only [kQ, kP, ww_n, cu_wl_n, mo_wl_n] at z ⊢; exact z
    · rw [if_neg c2, if_neg c2]
      have tb2 : TB (ww_up (cu_wl (min (16 * w + 16) len - 16 * w) (16 * w) j (1 - r) 0 v) (kP j) 5 (nI (w + 1))) (ww_up (mo_wl (min (16 * w + 16) len - 16 * w) (16 * w) (512 * (j + 1) + 256 * (1 - r)) p 0 u) 15 p (nI (w + 1))) j := by
        refine TB_c (fun b hb' => ?_) (fun b j' hb' => ?_) (fun b hb' => ?_) (fun j' => ?_) tb' <;> exact ww_n (by (try simp only [kP, kB, kO]); omega)
      have tb3 := TB_zero (d := 256 - len) (k := len) hb (by omega) tb2
      have lw := Lg_wr (c := j + 1) (p0 := p) (G := gu (gu (gu g 8 (2 * (j + 1) + (1 - r)) p) 4 p (1 - r)) 3 p 2) h.1 (by omega) (by omega) hp h0 h3 (fun b => by simp [gu]) (fun b => by simp [gu]) (fun b => by simp [gu]) (fun b => by simp [gu]) (fun b => by simp [gu, hrr]) (fun b => by simp [gu]) (fun b => by simp [gu]) (fun b => by simp [gu]) (fun b => by simp [gu, hrr])
      refine ⟨_, Rg_1 hj h lw (fun a b hb' => ?_) (fun a b h0 h1 h2 h3 h4 => ?_) (fun a b h1 h2 h3 => ?_) ?_ ?_ ?_ ⟨?_, ?_, ?_, ?_⟩⟩
      · simp only [blk] at hb'; unfold cu_comp; simp (disch := omega) only [kP, kB, ww_n, cu_wl_n, cu_zero_n]
      · unfold mo_fin; rw [ww_n (by omega), ww_n (by omega), ww_n (by omega), mo_zl_at, if_neg (by omega), ww_n (by omega), mo_wl_at, if_neg (by omega)]
      · simp (disch := omega) only [gu_n]
      · unfold mo_fin; simp (disch := omega) only [ww_n, mo_zl_n, mo_wl_n, gu_n, hrr]; exact r2
      · unfold mo_fin; simp (disch := omega) only [hp, ww_n, ww_e, gu_s]; rfl
      · unfold mo_fin; simp (disch := omega) only [hp, ww_n, ww_e, gu_n, gu_s]
      · unfold mo_fin cu_comp; simp (disch := omega) only [TA, kC, kP, kB, ww_n, ww_e, cu_wl_n, mo_wl_n, cu_zero_n, mo_zl_n] at ta ⊢; exact ta
      · intro b hb'
        have z := tb3 b hb'
        unfold mo_fin cu_comp
        refine ⟨?_, fun j' hj' => ?_⟩
        · rcases Decidable.em (b = 1 - r) with c3 | c3
          · subst c3
            simp (disch := omega) only [kP, kB, ww_n, ww_e, cu_wl_n, mo_wl_n, cu_zero_n, mo_zl_n] at q4 ⊢; exact q4
          · rw [ww_n (by simp only [kP, kB]; omega), ww_n (by simp only [kP, kB]; omega), ww_n (by simp only [kP, kB]; omega), ww_n (by omega), ww_n (by omega), ww_n (by omega)]; exact z.1
        · rw [ww_n (a := kO j b) (by simp only [kP, kO]; omega), ww_n (a := kO j b) (by simp only [kB, kO]; omega), ww_n (a := kO j b) (by simp only [kB, kO]; omega), ww_n (a := 10) (by omega), ww_n (a := 10) (by omega), ww_n (a := 10) (by omega)]; exact z.2 j' hj'
      · unfold cu_comp
        refine ⟨?_, ?_, fun b hb' => ?_⟩
        · have z := tk.1
          simp (disch := omega) only [kC, kP, kB, ww_n, cu_wl_n, cu_zero_n, gu_n, hrr] at z ⊢; exact z
        · have z := tk.2.1
          simp (disch := omega) only [kC, kP, kB, ww_n, cu_wl_n, cu_zero_n, gu_n] at z ⊢; exact z
        · rcases Decidable.em (b = 1 - r) with c3 | c3
          · subst c3
            simp (disch := omega) only [kP, kB, ww_n, ww_e, cu_wl_n, cu_zero_n, gu_n, gu_s] at q2 ⊢; exact q2
          · have z := tk.2.2 b hb'
            simp (disch := omega) only [kC, kP, kB, ww_n, cu_wl_n, cu_zero_n, gu_n] at z ⊢; exact z
      · have hG : gu (gu (gu g 8 (2 * (j + 1) + (1 - r)) p) 4 p (1 - r)) 3 p 2 0 (j + 1) = p := by simp (disch := omega) only [gu_n]; exact hp
        refine ⟨fun z => absurd (hG.symm.trans z) h0, fun _ => ?_⟩
        rw [hG]
        unfold mo_fin cu_comp
        refine ⟨?_, ?_, ?_, ?_, ?_, fun z => ?_⟩
        · simp (disch := omega) only [ww_e, gu_s]; rfl
        · simp (disch := omega) only [kP, kB, ww_n, cu_wl_n, cu_zero_n] at q2 ⊢; exact q2
        · simp (disch := omega) only [kP, kB, ww_n, cu_wl_n, cu_zero_n, gu_n] at q3 ⊢; exact q3
        · simp (disch := omega) only [kP, kB, ww_n, cu_wl_n, cu_zero_n, mo_wl_n, mo_zl_n] at q4 ⊢; exact q4
        · simp (disch := omega) only [kP, kB, ww_n, cu_wl_n, cu_zero_n, mo_wl_n, mo_zl_n, gu_n] at q5 ⊢; exact q5
        · rw [gu_s rfl rfl] at z; exact absurd z (by decide)
