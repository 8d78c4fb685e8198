/-! the loops over controllers and packages -/
theorem sp_iff {Q : Nat → Prop} {d k : Nat} : (∀ i, k ≤ i → i < k + (d + 1) → Q i) ↔ Q k ∧ ∀ i, k + 1 ≤ i → i < k + 1 + d → Q i :=
  ⟨fun h => ⟨h k (Nat.le_refl _) (by omega), fun i h1 h2 => h i (by omega) (by omega)⟩, fun h i h1 h2 => by
    rcases Nat.eq_or_lt_of_le h1 with e | e
    · subst e; exact h.1
    · exact h.2 i e (by omega)⟩
theorem can_iff {a : Int32} {v : ww_U} : ∀ (d k : Nat), cu_can d k a v ≠ 0 ↔ ∀ i, k ≤ i → i < k + d → (cu_isOf v i a ≠ 0 → v (kP i) 4 = 2 ∧ cu_away v i = 0)
  | 0, k => ⟨fun _ i h1 h2 => by omega, fun _ => by simp only [cu_can]; decide⟩
  | d + 1, k => by
    rw [sp_iff, ← can_iff d (k + 1)]
    simp only [cu_can]
    generalize cu_can d (k + 1) a v = R
    by_cases c1 : cu_isOf v k a = 0 <;> by_cases c2 : v (kP k) 4 = 2 <;> by_cases c3 : cu_away v k = 0 <;> simp [c1, c2, c3]
theorem asw_iff {a : Int32} {v : ww_U} : ∀ (d k : Nat), cu_asw d k a v ≠ 0 ↔ ∀ i, k ≤ i → i < k + d → (cu_isOf v i a ≠ 0 → v (kP i) 4 = 3)
  | 0, k => ⟨fun _ i h1 h2 => by omega, fun _ => by simp only [cu_asw]; decide⟩
  | d + 1, k => by
    rw [sp_iff, ← asw_iff d (k + 1)]
    simp only [cu_asw]
    generalize cu_asw d (k + 1) a v = R
    by_cases c1 : cu_isOf v k a = 0 <;> by_cases c2 : v (kP k) 4 = 3 <;> simp [c1, c2]
theorem has_iff {v : ww_U} : ∀ (d k : Nat), cu_has d k v = 0 ↔ ∀ i, k ≤ i → i < k + d → cu_ols v i = 0
  | 0, k => ⟨fun _ i h1 h2 => by omega, fun _ => by simp only [cu_has]⟩
  | d + 1, k => by
    rw [sp_iff, ← has_iff d (k + 1)]
    simp only [cu_has]
    generalize cu_has d (k + 1) v = R
    by_cases c1 : cu_ols v k = 0 <;> simp [c1]
theorem may_iff {v : ww_U} : ∀ (d k : Nat), cu_may d k v ≠ 0 ↔ ∀ i, k ≤ i → i < k + d → (cu_ols v i ≠ 0 → cu_away v i = 0 ∧ v (kP i) 4 = 0)
  | 0, k => ⟨fun _ i h1 h2 => by omega, fun _ => by simp only [cu_may]; decide⟩
  | d + 1, k => by
    rw [sp_iff, ← may_iff d (k + 1)]
    simp only [cu_may]
    generalize cu_may d (k + 1) v = R
    by_cases c1 : cu_ols v k = 0 <;> by_cases c2 : cu_away v k = 0 <;> by_cases c3 : v (kP k) 4 = 0 <;> simp [c1, c2, c3]
theorem jt_iff {v : ww_U} : ∀ (d k : Nat), cu_jt d k v ≠ 0 ↔ ∀ i, k ≤ i → i < k + d → (cu_ols v i ≠ 0 → v (kB i (cu_b v i)) 2 = v (kC i) 9)
  | 0, k => ⟨fun _ i h1 h2 => by omega, fun _ => by simp only [cu_jt]; decide⟩
  | d + 1, k => by
    rw [sp_iff, ← jt_iff d (k + 1)]
    simp only [cu_jt]
    generalize cu_jt d (k + 1) v = R
    by_cases c1 : cu_ols v k = 0 <;> by_cases c2 : v (kB k (cu_b v k)) 2 = v (kC k) 9 <;> simp [c1, c2]
theorem jt_01 {v : ww_U} : ∀ (d k : Nat), cu_jt d k v = 0 ∨ cu_jt d k v = 1
  | 0, k => Or.inr (by simp only [cu_jt])
  | d + 1, k => by
    simp only [cu_jt]
    split
    · exact jt_01 d (k + 1)
    · split
      · exact jt_01 d (k + 1)
      · exact Or.inl rfl
theorem all_iff {s w : Int32} {u : ww_U} : ∀ (d k : Nat) (is : Int32), mo_all d k s w u is ≠ 0 ↔ is ≠ 0 ∧ ∀ i, k ≤ i → i < k + d → (u 17 i = s → u 14 i = w ∧ (w = 2 → mo_th u (mo_rd u 11 i) ≠ 0))
  | 0, k, is => ⟨fun h => ⟨h, fun i h1 h2 => by omega⟩, fun h => h.1⟩
  | d + 1, k, is => by
    rw [sp_iff]
    simp only [mo_all]
    rw [all_iff d (k + 1)]
    unfold mo_a1
    by_cases c0 : is = 0 <;> by_cases c1 : u 17 k = s <;> by_cases c2 : u 14 k = w <;> by_cases c3 : w = 2 <;> by_cases c4 : mo_th u (mo_rd u 11 k) = 0 <;> simp [c0, c1, c2, c3, c4]
theorem jl_iff {u : ww_U} : ∀ (d k : Nat) (is : Int32), mo_jl d k u is ≠ 0 ↔ is ≠ 0 ∧ ∀ i, k ≤ i → i < k + d → (u 17 i = u 0 28 → u 2 (mo_rd u 11 i) = u 16 i)
  | 0, k, is => ⟨fun h => ⟨h, fun i h1 h2 => by omega⟩, fun h => h.1⟩
  | d + 1, k, is => by
    rw [sp_iff]
    simp only [mo_jl]
    rw [jl_iff d (k + 1)]
    unfold mo_j1
    by_cases c0 : is = 0 <;> by_cases c1 : u 17 k = u 0 28 <;> by_cases c2 : u 2 (mo_rd u 11 k) = u 16 k <;> simp [c0, c1, c2]
theorem rm_iff {u : ww_U} : ∀ (d k : Nat) (is : Int32), mo_rm d k u is ≠ 0 ↔ is ≠ 0 ∧ ∀ i, k ≤ i → i < k + d → (u 17 i = u 0 28 → mo_th u (mo_rd u 11 i) ≠ 0 ∧ ¬ 0 < u 4 (mo_rd u 11 i))
  | 0, k, is => ⟨fun h => ⟨h, fun i h1 h2 => by omega⟩, fun h => h.1⟩
  | d + 1, k, is => by
    rw [sp_iff]
    simp only [mo_rm]
    rw [rm_iff d (k + 1)]
    unfold mo_r1
    by_cases c0 : is = 0 <;> by_cases c1 : u 17 k = u 0 28 <;> by_cases c2 : mo_th u (mo_rd u 11 k) = 0 <;> by_cases c3 : 0 < u 4 (mo_rd u 11 k) <;> simp [c0, c1, c2, c3]
theorem mo_chl_n : ∀ (d k : Nat) (u : ww_U) (a c : Nat), (a ≠ 4 ∨ ∀ y, k ≤ y → y < k + d → u 17 y = u 0 28 → mo_rd u 11 y ≠ c) → mo_chl d k u a c = u a c
  | 0, _, _, _, _, _ => rfl
  | d + 1, k, u, a, c, h => by
    simp only [mo_chl]
    split
    · rename_i h0
      rw [mo_chl_n d (k + 1) (ww_up u 4 (mo_rd u 11 k) 0) a c (by
        rcases h with h | h
        · exact Or.inl h
        · refine Or.inr (fun y h1 h2 h3 => ?_)
          unfold mo_rd at *
          simp (disch := omega) only [ww_n] at h3 ⊢
          exact h y (by omega) (by omega) h3)]
      refine ww_n ?_
      rcases h with h | h
      · exact Or.inl h
      · exact Or.inr (Ne.symm (h k (Nat.le_refl _) (by omega) h0))
    · exact mo_chl_n d (k + 1) u a c (by
        rcases h with h | h
        · exact Or.inl h
        · exact Or.inr (fun y h1 h2 h3 => h y (by omega) (by omega) h3))
theorem mo_chl_z : ∀ (d k : Nat) (u : ww_U) (c : Nat), u 4 c = 0 → mo_chl d k u 4 c = 0
  | 0, _, _, _, h => h
  | d + 1, k, u, c, h => by
    simp only [mo_chl]
    split
    · refine mo_chl_z d (k + 1) _ c ?_
      rw [ww_v]
      split
      · rfl
      · exact h
    · exact mo_chl_z d (k + 1) u c h
theorem mo_chl_0 : ∀ (d k : Nat) (u : ww_U) (y : Nat), k ≤ y → y < k + d → u 17 y = u 0 28 → mo_chl d k u 4 (mo_rd u 11 y) = 0
  | 0, _, _, _, h1, h2, _ => by omega
  | d + 1, k, u, y, h1, h2, h3 => by
    simp only [mo_chl]
    rcases Nat.eq_or_lt_of_le h1 with e | e
    · subst e
      rw [if_pos h3]
      exact mo_chl_z d (k + 1) _ _ (ww_e rfl rfl)
    · split
      · have z := mo_chl_0 d (k + 1) (ww_up u 4 (mo_rd u 11 k) 0) y e (by omega) (by simp (disch := omega) only [ww_n]; exact h3)
        have e2 : mo_rd (ww_up u 4 (mo_rd u 11 k) 0) 11 y = mo_rd u 11 y := by unfold mo_rd; rw [ww_n (by omega)]
        rw [e2] at z
        exact z
      · exact mo_chl_0 d (k + 1) u y e (by omega) h3
theorem mo_sw_n {u : ww_U} {c a b : Nat} (h : (a ≠ 2 ∧ a ≠ 3) ∨ b ≠ c) : mo_sw u c a b = u a b := by
  unfold mo_sw; rw [ww_n (by omega), ww_n (by omega)]
theorem mo_sw_2 {u : ww_U} {c : Nat} : mo_sw u c 2 c = 1 - u 2 c := by
  unfold mo_sw; rw [ww_n (by omega), ww_e rfl rfl]
theorem mo_sw_3 {u : ww_U} {c : Nat} : mo_sw u c 3 c = u 9 (2 * c + (1 - mo_rd u 2 c)) := by
  unfold mo_sw; rw [ww_e rfl rfl, ww_n (by omega)]
theorem mo_rl_n : ∀ (d k : Nat) (u : ww_U) (a c : Nat), ((a ≠ 2 ∧ a ≠ 3) ∨ ∀ y, k ≤ y → y < k + d → u 17 y = u 0 28 → mo_rd u 11 y ≠ c) → mo_rl d k u a c = u a c
  | 0, _, _, _, _, _ => rfl
  | d + 1, k, u, a, c, h => by
    simp only [mo_rl]
    split
    · rename_i h0
      rw [mo_rl_n d (k + 1) (mo_sw u (mo_rd u 11 k)) a c (by
        rcases h with h | h
        · exact Or.inl h
        · refine Or.inr (fun y h1 h2 h3 => ?_)
          have e2 : mo_rd (mo_sw u (mo_rd u 11 k)) 11 y = mo_rd u 11 y := by unfold mo_rd; rw [mo_sw_n (by omega)]
          rw [mo_sw_n (by omega), mo_sw_n (by omega)] at h3
          rw [e2]
          exact h y (by omega) (by omega) h3)]
      refine mo_sw_n ?_
      rcases h with h | h
      · exact Or.inl h
      · exact Or.inr (Ne.symm (h k (Nat.le_refl _) (by omega) h0))
    · exact mo_rl_n d (k + 1) u a c (by
        rcases h with h | h
        · exact Or.inl h
        · exact Or.inr (fun y h1 h2 h3 => h y (by omega) (by omega) h3))
theorem mo_rl_at : ∀ (d k : Nat) (u : ww_U) (y : Nat), k ≤ y → y < k + d → u 17 y = u 0 28 → (∀ y y', k ≤ y → y < k + d → k ≤ y' → y' < k + d → u 17 y = u 0 28 → u 17 y' = u 0 28 → mo_rd u 11 y = mo_rd u 11 y' → y = y') →
    mo_rl d k u 2 (mo_rd u 11 y) = 1 - u 2 (mo_rd u 11 y) ∧ mo_rl d k u 3 (mo_rd u 11 y) = u 9 (2 * mo_rd u 11 y + (1 - mo_rd u 2 (mo_rd u 11 y)))
  | 0, _, _, _, h1, h2, _, _ => by omega
  | d + 1, k, u, y, h1, h2, h3, hi => by
    simp only [mo_rl]
    rcases Nat.eq_or_lt_of_le h1 with e | e
    · subst e
      rw [if_pos h3]
      have hq : ∀ y, k + 1 ≤ y → y < k + 1 + d → mo_sw u (mo_rd u 11 k) 17 y = mo_sw u (mo_rd u 11 k) 0 28 → mo_rd (mo_sw u (mo_rd u 11 k)) 11 y ≠ mo_rd u 11 k := by
        intro y a1 a2 a3 a4
        rw [mo_sw_n (by omega), mo_sw_n (by omega)] at a3
        have e2 : mo_rd (mo_sw u (mo_rd u 11 k)) 11 y = mo_rd u 11 y := by unfold mo_rd; rw [mo_sw_n (by omega)]
        rw [e2] at a4
        have := hi y k (by omega) (by omega) (by omega) (by omega) a3 h3 a4
        omega
      rw [mo_rl_n d (k + 1) _ 2 _ (Or.inr hq), mo_rl_n d (k + 1) _ 3 _ (Or.inr hq), mo_sw_2, mo_sw_3]
      exact ⟨rfl, rfl⟩
    · split
      · rename_i h0
        have hne : mo_rd u 11 y ≠ mo_rd u 11 k := fun z => by
          have := hi y k (by omega) (by omega) (by omega) (by omega) h3 h0 z
          omega
        have e2 : ∀ y, mo_rd (mo_sw u (mo_rd u 11 k)) 11 y = mo_rd u 11 y := fun y => by unfold mo_rd; rw [mo_sw_n (by omega)]
        have e17 : ∀ y, mo_sw u (mo_rd u 11 k) 17 y = u 17 y := fun y => mo_sw_n (by omega)
        have e28 : mo_sw u (mo_rd u 11 k) 0 28 = u 0 28 := mo_sw_n (by omega)
        have z := mo_rl_at d (k + 1) (mo_sw u (mo_rd u 11 k)) y e (by omega) (by rw [e17, e28]; exact h3) (fun y y' a1 a2 a3 a4 a5 a6 a7 => by
          rw [e17, e28] at a5 a6
          rw [e2, e2] at a7
          exact hi y y' (by omega) (by omega) (by omega) (by omega) a5 a6 a7)
        rw [e2] at z
        have e5 : mo_rd (mo_sw u (mo_rd u 11 k)) 2 (mo_rd u 11 y) = mo_rd u 2 (mo_rd u 11 y) := by
          show (mo_sw u (mo_rd u 11 k) 2 (mo_rd u 11 y)).toNatClampNeg = (u 2 (mo_rd u 11 y)).toNatClampNeg
          rw [mo_sw_n (Or.inr hne)]
        rw [e5, mo_sw_n (Or.inr hne), mo_sw_n (by omega)] at z
        exact z
      · exact mo_rl_at d (k + 1) u y e (by omega) h3 (fun y y' a1 a2 a3 a4 => hi y y' (by omega) (by omega) (by omega) (by omega))
def cs_com (a : Int32) (k : Nat) (v : ww_U) : ww_U := if cu_isOf v k a = 0 then v else ww_up v (kP k) 7 1
def cs_mls (a : Int32) (k : Nat) (v : ww_U) : ww_U := if cu_isOf v k a = 0 then ww_up v (kC k) 9 0 else ww_up (ww_up v (kC k) 9 (v (kP k) 2)) (kP k) 4 0
def cs_join (a b : Int32) (k : Nat) (v : ww_U) : ww_U := if cu_isOf v k a = 0 then (if cu_isOf v k b = 0 then v else ww_up v (kP k) 6 a) else ww_up v (kP k) 6 a
def cs_rb (k : Nat) (v : ww_U) : ww_U := if cu_ols v k = 0 then v else ww_up (cu_other v k) (kC k) 9 0
theorem com_it {a : Int32} : ∀ (d k : Nat) (v : ww_U), cu_com d k a v = bl_it (cs_com a) d k v
  | 0, _, _ => rfl
  | d + 1, k, v => by simp only [cu_com, bl_it, cs_com]; split <;> exact com_it d (k + 1) _
theorem mls_it {a : Int32} : ∀ (d k : Nat) (v : ww_U), cu_mls d k a v = bl_it (cs_mls a) d k v
  | 0, _, _ => rfl
  | d + 1, k, v => by simp only [cu_mls, bl_it, cs_mls]; split <;> exact mls_it d (k + 1) _
theorem join_it {a b : Int32} : ∀ (d k : Nat) (v : ww_U) (c : Int32), (cu_join d k a b v c).1 = bl_it (cs_join a b) d k v
  | 0, _, _, _ => rfl
  | d + 1, k, v, c => by
    simp only [cu_join, bl_it, cs_join]
    split
    · split <;> exact join_it d (k + 1) _ _
    · exact join_it d (k + 1) _ _
theorem rb_it : ∀ (d k : Nat) (v : ww_U), cu_rb d k v = bl_it cs_rb d k v
  | 0, _, _ => rfl
  | d + 1, k, v => by simp only [cu_rb, bl_it, cs_rb]; split <;> exact rb_it d (k + 1) _
theorem isOf_l {v v' : ww_U} {i : Nat} {a : Int32} (h : ∀ a b, blk i a → v' a b = v a b) : cu_isOf v' i a = cu_isOf v i a := by
  unfold cu_isOf; rw [h (kP i) 4 (by simp only [blk, kP]; omega), h (kP i) 6 (by simp only [blk, kP]; omega)]
theorem up_l {v v' : ww_U} {i k j : Nat} {x x' : Int32} (h : ∀ a b, blk i a → v' a b = v a b) (hx : x' = x) : ∀ a b, blk i a → ww_up v' k j x' a b = ww_up v k j x a b := by
  intro a b hb
  rw [ww_v, ww_v, h a b hb, hx]
theorem com_1 (a : Int32) : ∀ i v a' b, ¬ blk i a' → cs_com a i v a' b = v a' b := by
  intro i v a' b hb
  unfold cs_com
  split
  · rfl
  · exact ww_n (by simp only [blk, kP] at *; omega)
theorem com_2 (a : Int32) : ∀ i v v', (∀ a b, blk i a → v' a b = v a b) → ∀ a' b, blk i a' → cs_com a i v' a' b = cs_com a i v a' b := by
  intro i v v' h a' b hb
  unfold cs_com
  rw [isOf_l h]
  split
  · exact h a' b hb
  · exact up_l h rfl a' b hb
theorem mls_1 (a : Int32) : ∀ i v a' b, ¬ blk i a' → cs_mls a i v a' b = v a' b := by
  intro i v a' b hb
  simp only [blk] at hb
  unfold cs_mls
  split <;> simp (disch := omega) only [kP, kC, ww_n]
theorem mls_2 (a : Int32) : ∀ i v v', (∀ a b, blk i a → v' a b = v a b) → ∀ a' b, blk i a' → cs_mls a i v' a' b = cs_mls a i v a' b := by
  intro i v v' h a' b hb
  unfold cs_mls
  rw [isOf_l h]
  split
  · exact up_l h rfl a' b hb
  · exact up_l (up_l h (h _ _ (by simp only [blk, kP]; omega))) rfl a' b hb
theorem join_1 (a b : Int32) : ∀ i v a' b', ¬ blk i a' → cs_join a b i v a' b' = v a' b' := by
  intro i v a' b' hb
  simp only [blk] at hb
  unfold cs_join
  split
  · split
    · rfl
    · simp (disch := omega) only [kP, ww_n]
  · simp (disch := omega) only [kP, ww_n]
theorem join_2 (a b : Int32) : ∀ i v v', (∀ a b, blk i a → v' a b = v a b) → ∀ a' b', blk i a' → cs_join a b i v' a' b' = cs_join a b i v a' b' := by
  intro i v v' h a' b' hb
  unfold cs_join
  rw [isOf_l h, isOf_l h]
  split
  · split
    · exact h a' b' hb
    · exact up_l h rfl a' b' hb
  · exact up_l h rfl a' b' hb
theorem rb_1 : ∀ i v a' b, ¬ blk i a' → cs_rb i v a' b = v a' b := by
  intro i v a' b hb
  simp only [blk] at hb
  unfold cs_rb
  split
  · rfl
  · unfold cu_other; simp (disch := omega) only [kC, ww_n]
theorem rb_2 : ∀ i v v', (∀ a b, blk i a → v' a b = v a b) → ∀ a' b, blk i a' → cs_rb i v' a' b = cs_rb i v a' b := by
  intro i v v' h a' b hb
  have e9 := h (kC i) 9 (by simp only [blk, kC]; omega)
  have e3 := h (kC i) 3 (by simp only [blk, kC]; omega)
  unfold cs_rb cu_ols
  rw [e9]
  split
  · exact h a' b hb
  · unfold cu_other cu_b
    rw [e3]
    refine up_l (up_l (up_l h rfl) ?_) rfl a' b hb
    refine up_l h rfl _ _ ?_
    simp only [blk, kB]; omega
theorem TC_it {s : Nat → ww_U → ww_U} (h1 : ∀ i v a b, ¬ blk i a → s i v a b = v a b) (h2 : ∀ i v v', (∀ a b, blk i a → v' a b = v a b) → ∀ a b, blk i a → s i v' a b = s i v a b) {n i : Nat} {v u : ww_U} {g : Nat → Nat → Nat} (hi : i < n) (t : TC (s i v) u g i) : TC (bl_it s n 0 v) u g i :=
  TC_v (fun a b hb => bl_at h1 h2 n 0 v i (Nat.zero_le _) (by omega) a b hb) t
theorem TT_it {s : Nat → ww_U → ww_U} (h1 : ∀ i v a b, ¬ blk i a → s i v a b = v a b) {n m P : Nat} {v u : ww_U} (t : TT n P v u) : TT n P (bl_it s m 0 v) u :=
  TT_v (fun a b ha hb => bl_fr h1 m 0 v a b (fun i _ _ z => by unfold blk at z; omega)) t
