/-! needs -/
def sm (f : Nat → Nat) : Nat → Nat → Nat
  | 0, _ => 0
  | d + 1, k => f k + sm f d (k + 1)
theorem sm_congr {f f' : Nat → Nat} : ∀ (d k : Nat), (∀ i, k ≤ i → i < k + d → f i = f' i) → sm f d k = sm f' d k
  | 0, _, _ => rfl
  | d + 1, k, h => by
    simp only [sm]
    rw [h k (Nat.le_refl _) (by omega), sm_congr d (k + 1) (fun i h1 h2 => h i (by omega) (by omega))]
theorem sm_0 : ∀ (d k : Nat), sm (fun _ => 0) d k = 0
  | 0, _ => rfl
  | d + 1, k => by simp only [sm]; rw [sm_0 d (k + 1)]
theorem sm_add {f f' : Nat → Nat} : ∀ (d k : Nat), sm (fun i => f i + f' i) d k = sm f d k + sm f' d k
  | 0, _ => rfl
  | d + 1, k => by simp only [sm]; rw [sm_add d (k + 1)]; omega
theorem sm_swap {h : Nat → Nat → Nat} {e m : Nat} : ∀ (d k : Nat), sm (fun i => sm (fun p => h i p) e m) d k = sm (fun p => sm (fun i => h i p) d k) e m
  | 0, k => by simp only [sm]; exact (sm_0 e m).symm
  | d + 1, k => by
    simp only [sm]
    rw [sm_swap d (k + 1), sm_add]
theorem sm_one {x : Nat} : ∀ (d k : Nat), k ≤ x → x < k + d → sm (fun p => if p = x then 1 else 0) d k = 1
  | 0, k, h1, h2 => by omega
  | d + 1, k, h1, h2 => by
    simp only [sm]
    rcases Nat.eq_or_lt_of_le h1 with e | e
    · subst e
      rw [if_pos rfl, sm_congr (f' := fun _ => 0) d (k + 1) (fun i a1 a2 => if_neg (by omega)), sm_0]
    · rw [if_neg (by omega), sm_one d (k + 1) e (by omega)]
theorem sm_bij {F G : Nat → Prop} [DecidablePred F] [DecidablePred G] {φ ψ : Nat → Nat} {n P : Nat} (h1 : ∀ i, i < n → F i → 1 ≤ φ i ∧ φ i ≤ P ∧ G (φ i) ∧ ψ (φ i) = i) (h2 : ∀ p, 1 ≤ p → p ≤ P → G p → ψ p < n ∧ F (ψ p) ∧ φ (ψ p) = p) :
    sm (fun i => if F i then 1 else 0) n 0 = sm (fun p => if G p then 1 else 0) P 1 := by
  have e1 : sm (fun i => if F i then 1 else 0) n 0 = sm (fun i => sm (fun p => if F i ∧ p = φ i then 1 else 0) P 1) n 0 := by
    refine sm_congr n 0 (fun i _ hi => ?_)
    by_cases c : F i
    · have z := h1 i (by omega) c
      rw [if_pos c, sm_congr (f' := fun p => if p = φ i then 1 else 0) P 1 (fun p _ _ => by simp [c]), sm_one P 1 z.1 (by omega)]
    · rw [if_neg c, sm_congr (f' := fun _ => 0) P 1 (fun p _ _ => by simp [c]), sm_0]
  have e2 : sm (fun p => if G p then 1 else 0) P 1 = sm (fun p => sm (fun i => if F i ∧ p = φ i then 1 else 0) n 0) P 1 := by
    refine sm_congr P 1 (fun p a1 a2 => ?_)
    by_cases c : G p
    · have z := h2 p a1 (by omega) c
      rw [if_pos c, sm_congr (f' := fun i => if i = ψ p then 1 else 0) n 0 (fun i _ hi => ?_), sm_one n 0 (Nat.zero_le _) (by omega)]
      by_cases e : i = ψ p
      · subst e; rw [if_pos ⟨z.2.1, z.2.2.symm⟩, if_pos rfl]
      · rw [if_neg e, if_neg (fun y => e ?_)]
        rw [y.2]; exact ((h1 i (by omega) y.1).2.2.2).symm
    · rw [if_neg c, sm_congr (f' := fun _ => 0) n 0 (fun i _ hi => ?_), sm_0]
      refine if_neg (fun y => c ?_)
      rw [y.2]; exact (h1 i (by omega) y.1).2.2.1
  rw [e1, e2, sm_swap]
theorem fo_none {x : Int32} {v : ww_U} : ∀ (d k : Nat), (∀ i, k ≤ i → i < k + d → v (kP i) 4 ≠ 0 → v (kP i) 2 ≠ x) → cu_fo d k x v = none
  | 0, _, _ => rfl
  | d + 1, k, h => by
    simp only [cu_fo]
    have ih := fo_none (x := x) (v := v) d (k + 1) (fun i h1 h2 => h i (by omega) (by omega))
    split
    · exact ih
    · rename_i c
      rw [if_neg (h k (Nat.le_refl _) (by omega) c)]; exact ih
theorem fo_some {x : Int32} {v : ww_U} {j : Nat} : ∀ (d k : Nat), k ≤ j → j < k + d → v (kP j) 4 ≠ 0 → v (kP j) 2 = x → (∀ i, k ≤ i → i < k + d → v (kP i) 4 ≠ 0 → v (kP i) 2 = x → i = j) → cu_fo d k x v = some j
  | 0, _, h1, h2, _, _, _ => by omega
  | d + 1, k, h1, h2, h3, h4, h5 => by
    simp only [cu_fo]
    rcases Nat.eq_or_lt_of_le h1 with e | e
    · subst e
      rw [if_neg h3, if_pos h4]
    · have ih := fo_some (x := x) (v := v) d (k + 1) e (by omega) h3 h4 (fun i a1 a2 => h5 i (by omega) (by omega))
      split
      · exact ih
      · rename_i c
        rw [if_neg (fun z => by have := h5 k (Nat.le_refl _) (by omega) c z; omega)]; exact ih
theorem op_iff {n P i p : Nat} {v u : ww_U} {g : Nat → Nat → Nat} (h : Rg n P v u g) (hi : i < n) (h1 : 1 ≤ p) (h2 : p ≤ P) : (v (kP i) 4 ≠ 0 ∧ v (kP i) 2 = nI p) ↔ g 0 (i + 1) = p := by
  have hn := Rg_n h
  have l1 := h.1.1 (i + 1) (by omega) (by omega)
  have tp := (h.2.2.2.2.2 i hi).2.2.2
  refine ⟨fun z => ?_, fun z => ?_⟩
  · have h0 := st_0 h hi z.1
    exact (nI_eq (by omega) (by omega)).mp ((tp.2 h0).2.1.symm.trans z.2)
  · have h0 : g 0 (i + 1) ≠ 0 := by omega
    have y := st_g h hi h0
    refine ⟨by rw [y.1]; exact nI_ne0 (by omega) (by omega), ?_⟩
    rw [(tp.2 h0).2.1, z]
theorem fo_eq {n P p : Nat} {v u : ww_U} {g : Nat → Nat → Nat} (h : Rg n P v u g) (h1 : 1 ≤ p) (h2 : p ≤ P) : cu_fo n 0 (nI p) v = if g 0 (g 1 p) = p then some (g 1 p - 1) else none := by
  have hn := Rg_n h
  have l2 := h.1.2.1 p h1 h2
  have key : ∀ i, i < n → g 0 (i + 1) = p → i = g 1 p - 1 := fun i hi e => by
    have l1 := (h.1.1 (i + 1) (by omega) (by omega)).2 (by omega)
    rw [e] at l1
    omega
  split
  · rename_i c
    have z := (op_iff h (i := g 1 p - 1) (by omega) h1 h2).mpr (by rw [show g 1 p - 1 + 1 = g 1 p by omega]; exact c)
    exact fo_some n 0 (Nat.zero_le _) (by omega) z.1 z.2 (fun i _ hi a3 a4 => key i (by omega) ((op_iff h (by omega) h1 h2).mp ⟨a3, a4⟩))
  · rename_i c
    refine fo_none n 0 (fun i _ hi a3 a4 => c ?_)
    have z := (op_iff h (by omega) h1 h2).mp ⟨a3, a4⟩
    have y := key i (by omega) z
    rw [show g 1 p = i + 1 by omega]; exact z
theorem mop_eq {n P p : Nat} {v u : ww_U} {g : Nat → Nat → Nat} (h : Rg n P v u g) (h1 : 1 ≤ p) (h2 : p ≤ P) : mo_op u p = if g 0 (g 1 p) = p then 1 else 0 := by
  have hn := Rg_n h
  have l2 := h.1.2.1 p h1 h2
  have l1 := (h.1.1 (g 1 p) (by omega) (by omega)).1
  unfold mo_op
  rw [(rd_11 h (p := p) (by omega)).1, (h.2.2.1.1 (g 1 p) (by omega)).1]
  by_cases c : g 0 (g 1 p) = p
  · rw [if_pos c, if_pos (by rw [c])]
  · rw [if_neg c, if_neg (fun z => c ((nI_eq (by omega) (by omega)).mp z))]
theorem nl_at {p : Nat} {a A : Int32} : ∀ (d k : Nat) (u : ww_U) (c : Int32), u 17 p = A → (∀ x y, (mo_nl d k p a u c).1 x y = if x = 17 ∧ k ≤ y ∧ y < k + d ∧ u 17 y = a then A else u x y) ∧ (mo_nl d k p a u c).2 = c + nI (sm (fun y => if u 17 y = a ∨ u 17 y = A then 1 else 0) d k)
  | 0, k, u, c, hA => ⟨fun x y => by rw [if_neg (by omega)]; rfl, by simp only [mo_nl, sm]; rw [nI_0, Int32.add_zero]⟩
  | d + 1, k, u, c, hA => by
    simp only [mo_nl, sm]
    rw [hA]
    split
    · rename_i c1
      have hA' : ww_up u 17 k A 17 p = A := by
        rw [ww_v]; split
        · rfl
        · exact hA
      rw [hA', if_pos (ww_e rfl rfl)]
      obtain ⟨i1, i2⟩ := nl_at (a := a) d (k + 1) (ww_up u 17 k A) (c + 1) hA'
      refine ⟨fun x y => ?_, ?_⟩
      · rw [i1]
        rcases Decidable.em (x = 17 ∧ y = k) with e | e
        · obtain ⟨rfl, rfl⟩ := e
          rw [if_neg (by omega), if_pos ⟨rfl, Nat.le_refl _, by omega, c1⟩]
          exact ww_e rfl rfl
        · rw [show ww_up u 17 k A x y = u x y from ww_n (by omega)]
          rcases Decidable.em (x = 17 ∧ k + 1 ≤ y ∧ y < k + 1 + d ∧ u 17 y = a) with f | f
          · rw [if_pos ⟨f.1, f.2.1, f.2.2.1, by rw [ww_n (by omega)]; exact f.2.2.2⟩, if_pos ⟨f.1, by omega, by omega, f.2.2.2⟩]
          · rw [if_neg (fun z => f ⟨z.1, z.2.1, z.2.2.1, by have w := z.2.2.2; rw [ww_n (by omega)] at w; exact w⟩), if_neg (fun z => f ⟨z.1, by omega, by omega, z.2.2.2⟩)]
      · rw [i2, sm_congr (f' := fun y => if u 17 y = a ∨ u 17 y = A then 1 else 0) d (k + 1) (fun y a1 a2 => by rw [ww_n (by omega)]), if_pos (Or.inl c1), ← nI_add, Int32.add_assoc]; rfl
    · rename_i c1
      have hU : ∀ x y, (if x = 17 ∧ k + 1 ≤ y ∧ y < k + 1 + d ∧ u 17 y = a then A else u x y) = if x = 17 ∧ k ≤ y ∧ y < k + (d + 1) ∧ u 17 y = a then A else u x y := by
        intro x y
        rcases Decidable.em (x = 17 ∧ k + 1 ≤ y ∧ y < k + 1 + d ∧ u 17 y = a) with f | f
        · rw [if_pos f, if_pos ⟨f.1, by omega, by omega, f.2.2.2⟩]
        · rw [if_neg f, if_neg (fun z => ?_)]
          rcases Nat.eq_or_lt_of_le z.2.1 with e | e
          · subst e; exact c1 z.2.2.2
          · exact f ⟨z.1, e, by omega, z.2.2.2⟩
      split
      · rename_i c2
        obtain ⟨i1, i2⟩ := nl_at (a := a) d (k + 1) u (c + 1) hA
        refine ⟨fun x y => (i1 x y).trans (hU x y), ?_⟩
        rw [i2, if_pos (Or.inr c2), ← nI_add, Int32.add_assoc]; rfl
      · rename_i c2
        obtain ⟨i1, i2⟩ := nl_at (a := a) d (k + 1) u c hA
        refine ⟨fun x y => (i1 x y).trans (hU x y), ?_⟩
        rw [i2, if_neg (fun z => z.elim c1 c2), Nat.zero_add]
theorem jn_cnt {a b : Int32} : ∀ (d k : Nat) (v : ww_U) (c : Int32), (cu_join d k a b v c).2 = c + nI (sm (fun i => if cu_isOf v i a ≠ 0 ∨ cu_isOf v i b ≠ 0 then 1 else 0) d k)
  | 0, k, v, c => by simp only [cu_join, sm]; rw [nI_0, Int32.add_zero]
  | d + 1, k, v, c => by
    have cg : ∀ x, sm (fun i => if cu_isOf (ww_up v (kP k) 6 x) i a ≠ 0 ∨ cu_isOf (ww_up v (kP k) 6 x) i b ≠ 0 then 1 else 0) d (k + 1) = sm (fun i => if cu_isOf v i a ≠ 0 ∨ cu_isOf v i b ≠ 0 then 1 else 0) d (k + 1) := fun x => by
      refine sm_congr d (k + 1) (fun i a1 a2 => ?_)
      have z : ∀ y, cu_isOf (ww_up v (kP k) 6 x) i y = cu_isOf v i y := fun y => by
        unfold cu_isOf; rw [ww_n (by simp only [kP]; omega), ww_n (by simp only [kP]; omega)]
      rw [z, z]
    simp only [cu_join, sm]
    by_cases c1 : cu_isOf v k a = 0
    · by_cases c2 : cu_isOf v k b = 0
      · rw [if_pos c1, if_pos c2, jn_cnt d (k + 1), if_neg (fun z => z.elim (fun y => y c1) (fun y => y c2)), Nat.zero_add]
      · rw [if_pos c1, if_neg c2, jn_cnt d (k + 1), cg, if_pos (Or.inr c2), ← nI_add, Int32.add_assoc]; rfl
    · rw [if_neg c1, jn_cnt d (k + 1), cg, if_pos (Or.inl c1), ← nI_add, Int32.add_assoc]; rfl
def g_jn (g : Nat → Nat → Nat) (a b0 : Nat) : Nat → Nat → Nat := fun x y => if x = 2 then (if g 2 y = b0 then a else g 2 y) else g x y
theorem gj_n {g : Nat → Nat → Nat} {a b0 x y : Nat} (h : x ≠ 2) : g_jn g a b0 x y = g x y := by unfold g_jn; rw [if_neg h]
theorem gj_2 {g : Nat → Nat → Nat} {a b0 y : Nat} : g_jn g a b0 2 y = if g 2 y = b0 then a else g 2 y := by unfold g_jn; rw [if_pos rfl]
theorem re_jn {n P p q : Nat} {v u : ww_U} {g : Nat → Nat → Nat} (h : Rg n P v u g) (hp1 : 1 ≤ p) (hp2 : p ≤ P) (hq1 : 1 ≤ q) (hq2 : q ≤ P) (hpo : g 0 (g 1 p) = p) (hqo : g 0 (g 1 q) = q) (h18p : u 18 (g 2 p) = 0) (h18q : u 18 (g 2 q) = 0) :
    (cu_join n 0 (nI (g 2 p)) (nI (g 2 q)) v 0).2 = (mo_nl P 1 p (nI (g 2 q)) u 0).2 ∧ Rg n P (cu_join n 0 (nI (g 2 p)) (nI (g 2 q)) v 0).1 (mo_nl P 1 p (nI (g 2 q)) u 0).1 (g_jn g (g 2 p) (g 2 q)) := by
  have hn := Rg_n h
  obtain ⟨lg, tt, tr, tn, tf, tc⟩ := h
  have h : Rg n P v u g := ⟨lg, tt, tr, tn, tf, tc⟩
  have lp := lg.2.1 p hp1 hp2
  have lq := lg.2.1 q hq1 hq2
  have hp0 : g 2 p ≠ 0 := by have z := ((lg.1 (g 1 p) (by omega) (by omega)).2 (by omega)).2; rw [hpo] at z; exact z
  have hq0 : g 2 q ≠ 0 := by have z := ((lg.1 (g 1 q) (by omega) (by omega)).2 (by omega)).2; rw [hqo] at z; exact z
  have lw := Lg_join (G := g_jn g (g 2 p) (g 2 q)) lg hp1 hp2 hq1 hq2 hpo hqo rfl rfl hp0 hq0 (fun b => gj_n (by decide)) (fun b => gj_n (by decide)) (fun b => gj_2) (fun b => gj_n (by decide)) (fun b => gj_n (by decide)) (fun b => gj_n (by decide)) (fun b => gj_n (by decide)) (fun b => gj_n (by decide)) (fun b => gj_n (by decide))
  obtain ⟨n1, n2⟩ := nl_at (p := p) (a := nI (g 2 q)) (A := nI (g 2 p)) P 1 u 0 (tr.2.1 p (by omega)).2.1
  have opn : ∀ y, 1 ≤ y → y ≤ P → (g 2 y = g 2 q ∨ g 2 y = g 2 p) → g 0 (g 1 y) = y := by
    intro y a1 a2 a3
    rcases a3 with a3 | a3
    · exact (lg.2.2.1 q y hq1 hq2 a1 a2 a3.symm hq0).1 hqo
    · exact (lg.2.2.1 p y hp1 hp2 a1 a2 a3.symm hp0).1 hpo
  refine ⟨?_, ?_⟩
  · rw [n2, jn_cnt]
    have e1 : sm (fun i => if cu_isOf v i (nI (g 2 p)) ≠ 0 ∨ cu_isOf v i (nI (g 2 q)) ≠ 0 then 1 else 0) n 0 = sm (fun i => if g 0 (i + 1) ≠ 0 ∧ (g 2 (g 0 (i + 1)) = g 2 q ∨ g 2 (g 0 (i + 1)) = g 2 p) then 1 else 0) n 0 := by
      refine sm_congr n 0 (fun i _ hi => ?_)
      have x1 := isOf_iff h (i := i) (s := g 2 p) (by omega) (by omega)
      have x2 := isOf_iff h (i := i) (s := g 2 q) (by omega) (by omega)
      by_cases c : g 0 (i + 1) ≠ 0 ∧ (g 2 (g 0 (i + 1)) = g 2 q ∨ g 2 (g 0 (i + 1)) = g 2 p)
      · rw [if_pos c, if_pos (c.2.elim (fun z => Or.inr (x2.mpr ⟨c.1, z⟩)) (fun z => Or.inl (x1.mpr ⟨c.1, z⟩)))]
      · rw [if_neg c, if_neg (fun z => c (z.elim (fun y => ⟨(x1.mp y).1, Or.inr (x1.mp y).2⟩) (fun y => ⟨(x2.mp y).1, Or.inl (x2.mp y).2⟩)))]
    have e2 : sm (fun y => if u 17 y = nI (g 2 q) ∨ u 17 y = nI (g 2 p) then 1 else 0) P 1 = sm (fun y => if g 2 y = g 2 q ∨ g 2 y = g 2 p then 1 else 0) P 1 := by
      refine sm_congr P 1 (fun y a1 a2 => ?_)
      have z := (tr.2.1 y (by omega)).2.1
      have ly := lg.2.1 y a1 (by omega)
      rw [z]
      simp only [nI_eq (a := g 2 y) (b := g 2 q) (by omega) (by omega), nI_eq (a := g 2 y) (b := g 2 p) (by omega) (by omega)]
    rw [e1, e2]
    refine congrArg (fun z => (0 : Int32) + nI z) (sm_bij (F := fun i => g 0 (i + 1) ≠ 0 ∧ (g 2 (g 0 (i + 1)) = g 2 q ∨ g 2 (g 0 (i + 1)) = g 2 p)) (G := fun y => g 2 y = g 2 q ∨ g 2 y = g 2 p) (φ := fun i => g 0 (i + 1)) (ψ := fun y => g 1 y - 1) ?_ ?_)
    · intro i hi hF
      have l1 := lg.1 (i + 1) (by omega) (by omega)
      refine ⟨by omega, l1.1, hF.2, ?_⟩
      show g 1 (g 0 (i + 1)) - 1 = i
      rw [(l1.2 hF.1).1]; omega
    · intro y a1 a2 hG
      have ly := lg.2.1 y a1 a2
      have lo := opn y a1 a2 hG
      show g 1 y - 1 < n ∧ (g 0 (g 1 y - 1 + 1) ≠ 0 ∧ (g 2 (g 0 (g 1 y - 1 + 1)) = g 2 q ∨ g 2 (g 0 (g 1 y - 1 + 1)) = g 2 p)) ∧ g 0 (g 1 y - 1 + 1) = y
      rw [show g 1 y - 1 + 1 = g 1 y by omega, lo]
      exact ⟨by omega, ⟨by omega, hG⟩, rfl⟩
  · have hU : ∀ a b, a ≠ 17 → (mo_nl P 1 p (nI (g 2 q)) u 0).1 a b = u a b := fun a b h1 => by rw [n1, if_neg (by omega)]
    rw [join_it]
    refine ⟨lw, TT_it (join_1 _ _) (TT_u (fun b _ _ => hU 0 b (by decide)) (fun a b _ _ => hU a b (by omega)) tt), ⟨fun c hc => ?_, fun y hy => ?_, ?_⟩, fun c h1 h2 => ?_, fun y h1 h2 => ?_, fun i hi => TC_it (join_1 _ _) (join_2 _ _) hi ?_⟩
    · rw [hU 4 c (by decide), hU 2 c (by decide), gj_n (by decide), gj_n (by decide)]; exact tr.1 c hc
    · have z := tr.2.1 y hy
      rw [hU 11 y (by decide), hU 14 y (by decide), hU 16 y (by decide), gj_n (x := 1) (by decide), gj_n (x := 3) (by decide), gj_n (x := 4) (by decide), gj_2, n1]
      refine ⟨z.1, ?_, z.2.2⟩
      rcases Decidable.em (1 ≤ y ∧ y ≤ P) with e | e
      · have ly := lg.2.1 y e.1 e.2
        by_cases f : g 2 y = g 2 q
        · rw [if_pos f, if_pos ⟨rfl, e.1, by omega, by rw [z.2.1, f]⟩]
        · rw [if_neg f, if_neg (fun w => f ?_)]
          · exact z.2.1
          · have w := w.2.2.2
            rw [z.2.1] at w
            exact (nI_eq (by omega) (by omega)).mp w
      · have w := (lg.2.2.2.2.2.2.2.2.2.2.2.2 y (by omega)).2
        rw [if_neg (fun x => by omega), if_neg (by omega)]; exact z.2.1
    · rw [hU 0 28 (by decide), gj_n (by decide)]; exact tr.2.2
    · have z := tn c h1 h2
      rw [hU 3 c (by decide), hU 5 c (by decide), hU 6 c (by decide)]
      exact ⟨z.1, z.2.1, z.2.2.1, fun b hb => by rw [hU 9 _ (by decide)]; exact ⟨(z.2.2.2 b hb).1, fun j' hj' => by rw [hU 10 _ (by decide)]; exact (z.2.2.2 b hb).2 j' hj'⟩⟩
    · rw [hU 15 y (by decide), hU 18 y (by decide)]; exact tf y h1 h2
    · have x1 := isOf_iff h (i := i) (s := g 2 p) (by omega) (by omega)
      have x2 := isOf_iff h (i := i) (s := g 2 q) (by omega) (by omega)
      obtain ⟨ta, tb, tk, tp⟩ := TC_u (u' := (mo_nl P 1 p (nI (g 2 q)) u 0).1) (fun a b _ _ _ _ _ _ h17 _ => hU a b h17) (tc i hi)
      rw [← hU 18 _ (by decide)] at h18p h18q
      generalize (mo_nl P 1 p (nI (g 2 q)) u 0).1 = u' at *
      have hk : TK v (g_jn g (g 2 p) (g 2 q)) i := TK_g (gj_n (by decide)) (gj_n (by decide)) (fun b hb => gj_n (by decide)) tk
      have mem : g 0 (i + 1) ≠ 0 → (g 2 (g 0 (i + 1)) = g 2 q ∨ g 2 (g 0 (i + 1)) = g 2 p) → TC (ww_up v (kP i) 6 (nI (g 2 p))) u' (g_jn g (g 2 p) (g 2 q)) i := by
        intro c1 c2
        have g2' : g_jn g (g 2 p) (g 2 q) 2 (g 0 (i + 1)) = g 2 p := by
          rw [gj_2]; split
          · rfl
          · rename_i c3; exact c2.resolve_left c3
        refine ⟨?_, ?_, ?_, fun z => absurd z (by rw [gj_n (by decide)]; exact c1), fun _ => ?_⟩
        · simp (disch := omega) only [TA, kC, kP, ww_n] at ta ⊢; exact ta
        · simp (disch := omega) only [TB, kP, kB, kO, ww_n] at tb ⊢; exact tb
        · simp (disch := omega) only [TK, kP, kB, kC, ww_n] at hk ⊢; exact hk
        · obtain ⟨q1, q2, q3, q4, q5, q6⟩ := tp.2 c1
          rw [gj_n (by decide)]
          refine ⟨?_, ?_, ?_, ?_, ?_, ?_⟩
          · rw [gj_n (by decide), ww_n (by omega)]; exact q1
          · rw [ww_n (by omega)]; exact q2
          · rw [g2', ww_e rfl rfl]
          · rw [ww_n (by omega)]; exact q4
          · rw [ww_n (by omega), g2']
            refine ⟨fun _ => h18p, fun _ => q5.mpr ?_⟩
            rcases c2 with c2 | c2
            · rw [c2]; exact h18q
            · rw [c2]; exact h18p
          · rw [gj_n (by decide)]
            simp (disch := omega) only [kP, kQ, ww_n] at q6 ⊢; exact q6
      unfold cs_join
      by_cases c1 : cu_isOf v i (nI (g 2 p)) = 0
      · by_cases c2 : cu_isOf v i (nI (g 2 q)) = 0
        · rw [if_pos c1, if_pos c2]
          refine ⟨ta, tb, hk, TP_u (gj_n (by decide)) (fun z => TQ_u rfl rfl rfl rfl (fun _ _ => rfl) ?_ (gj_n (by decide))) tp⟩
          rw [gj_2, if_neg (fun e => x2.mpr ⟨z, e⟩ c2)]
        · rw [if_pos c1, if_neg c2]
          have z := x2.mp c2
          exact mem z.1 (Or.inl z.2)
      · rw [if_neg c1]
        have z := x1.mp c1
        exact mem z.1 (Or.inr z.2)
theorem isp_iff {n P : Nat} {v u : ww_U} {x : Int32} (h : Rel n P v u) : cu_isp v x = 0 ↔ (x < 1 ∨ u 0 12 < x) := by
  obtain ⟨g, h⟩ := h
  obtain ⟨_, _, _, _, t1, t2⟩ := h.2.1.1
  unfold cu_isp
  rw [t1, t2]
  by_cases c : x < 1
  · rw [if_pos c]; exact ⟨fun _ => Or.inl c, fun _ => rfl⟩
  · rw [if_neg c]
    by_cases d : nI P < x
    · rw [if_pos d]; exact ⟨fun _ => Or.inr d, fun _ => rfl⟩
    · rw [if_neg d]; exact ⟨fun z => absurd z (by decide), fun z => absurd z (fun w => w.elim c d)⟩
theorem re_needs0 {n P : Nat} {v u : ww_U} {y z : Int32} (h : Rel n P v u) (hx : y < 1 ∨ u 0 12 < y ∨ z < 1 ∨ u 0 12 < z) : cu_needs n v y z = (v, -1) := by
  unfold cu_needs
  by_cases c : cu_isp v y = 0
  · rw [if_pos c]
  · rw [if_neg c, if_pos]
    refine (isp_iff h).mpr ?_
    have c : ¬ (y < 1 ∨ u 0 12 < y) := fun w => c ((isp_iff h).mpr w)
    rcases hx with w | w | w | w
    · exact absurd (Or.inl w) c
    · exact absurd (Or.inr w) c
    · exact Or.inl w
    · exact Or.inr w
theorem re_needs {n P p q : Nat} {v u : ww_U} (h : Rel n P v u) (hp1 : 1 ≤ p) (hp2 : p ≤ P) (hq1 : 1 ≤ q) (hq2 : q ≤ P) : (cu_needs n v (nI p) (nI q)).2 = (mo_needs P u p q).2 ∧ Rel n P (cu_needs n v (nI p) (nI q)).1 (mo_needs P u p q).1 := by
  have n1 : ¬ cu_isp v (nI p) = 0 := by
    rw [isp_iff h]
    obtain ⟨g, h⟩ := h
    have hn := Rg_n h
    rw [h.2.1.1.2.2.2.2.2]
    exact fun z => z.elim (nI_nlt (b := 1) (by omega) (by omega)) (nI_nlt (by omega) (by omega))
  have n2 : ¬ cu_isp v (nI q) = 0 := by
    rw [isp_iff h]
    obtain ⟨g, h⟩ := h
    have hn := Rg_n h
    rw [h.2.1.1.2.2.2.2.2]
    exact fun z => z.elim (nI_nlt (b := 1) (by omega) (by omega)) (nI_nlt (by omega) (by omega))
  have h := Rel_z h
  have e17 : ∀ y, u 17 y = mo_z u 17 y := fun y => (ww_n (by omega)).symm
  have e18 : ∀ y, u 18 y = mo_z u 18 y := fun y => (ww_n (by omega)).symm
  unfold cu_needs mo_needs mo_rd
  rw [if_neg n1, if_neg n2]
  simp only [e17, e18]
  clear e17 e18
  generalize mo_z u = u at h ⊢
  obtain ⟨g, h⟩ := h
  have hn := Rg_n h
  have tp := (h.2.2.1.2.1 p (by omega)).2.1
  have tq := (h.2.2.1.2.1 q (by omega)).2.1
  have lp := h.1.2.1 p hp1 hp2
  have lq := h.1.2.1 q hq1 hq2
  rw [tp, tq, nI_clamp (by omega), nI_clamp (by omega), mop_eq h hp1 hp2, mop_eq h hq1 hq2, fo_eq h hp1 hp2, fo_eq h hq1 hq2]
  by_cases c : nI p = nI q
  · rw [if_pos c, if_pos c]; exact ⟨rfl, g, h⟩
  · rw [if_neg c, if_neg c]
    by_cases cp : g 0 (g 1 p) = p
    · by_cases cq : g 0 (g 1 q) = q
      · simp only [if_pos cp, if_pos cq]
        have one : ¬ (1 : Int32) = 0 := by decide
        simp only [if_neg one]
        have ap := (h.2.2.2.2.2 (g 1 p - 1) (by omega)).2.2.2.2
        have aq := (h.2.2.2.2.2 (g 1 q - 1) (by omega)).2.2.2.2
        rw [show g 1 p - 1 + 1 = g 1 p by omega, cp] at ap
        rw [show g 1 q - 1 + 1 = g 1 q by omega, cq] at aq
        obtain ⟨_, _, p3, _, p5, _⟩ := ap (by omega)
        obtain ⟨_, _, q3, _, q5, _⟩ := aq (by omega)
        rw [p3, q3]
        by_cases c7 : v (kP (g 1 p - 1)) 7 = 0
        · rw [if_pos c7, if_pos (p5.mp c7)]
          by_cases c8 : v (kP (g 1 q - 1)) 7 = 0
          · rw [if_pos c8, if_pos (q5.mp c8)]
            have R := re_jn h hp1 hp2 hq1 hq2 cp cq (p5.mp c7) (q5.mp c8)
            exact ⟨R.1, _, R.2⟩
          · rw [if_neg c8, if_neg (fun z => c8 (q5.mpr z))]; exact ⟨rfl, g, h⟩
        · rw [if_neg c7, if_neg (fun z => c7 (p5.mpr z))]; exact ⟨rfl, g, h⟩
      · simp only [if_pos cp, if_neg cq]
        rw [if_neg (by decide), if_pos trivial]; exact ⟨rfl, g, h⟩
    · simp only [if_neg cp]
      rw [if_pos trivial]
      by_cases cq : g 0 (g 1 q) = q
      · simp only [if_pos cq]; exact ⟨trivial, g, h⟩
      · simp only [if_neg cq]; exact ⟨trivial, g, h⟩
