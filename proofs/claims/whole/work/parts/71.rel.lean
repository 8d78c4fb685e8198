/-! the tie between the cells of UpdatePacks (v, cells from 29) and those of the reference (u, cells below 29) -/
theorem ww_n {u : ww_U} {k j a b : Nat} {x : Int32} (h : a ≠ k ∨ b ≠ j) : ww_up u k j x a b = u a b := by
  rcases Decidable.em (a = k) with c | c
  · subst c; exact ww_up_nj (by omega)
  · rw [ww_up_ne c]
theorem ww_e {u : ww_U} {k j a b : Nat} {x : Int32} (h : a = k) (h' : b = j) : ww_up u k j x a b = x := by subst h; subst h'; exact ww_up_self
theorem ww_v {u : ww_U} {k j a b : Nat} {x : Int32} : ww_up u k j x a b = if a = k ∧ b = j then x else u a b := by
  rcases Decidable.em (a = k ∧ b = j) with c | c
  · rw [if_pos c]; exact ww_e c.1 c.2
  · rw [if_neg c]; exact ww_n (by omega)
def blk (i a : Nat) : Prop := 36 + 8 * i ≤ a ∧ a < 44 + 8 * i
def bl_it (s : Nat → ww_U → ww_U) : Nat → Nat → ww_U → ww_U
  | 0, _, v => v
  | d + 1, k, v => bl_it s d (k + 1) (s k v)
theorem bl_fr {s : Nat → ww_U → ww_U} (h1 : ∀ i v a b, ¬ blk i a → s i v a b = v a b) : ∀ (d k : Nat) (v : ww_U) (a b : Nat), (∀ i, k ≤ i → i < k + d → ¬ blk i a) → bl_it s d k v a b = v a b
  | 0, _, _, _, _, _ => rfl
  | d + 1, k, v, a, b, h => (bl_fr h1 d (k + 1) (s k v) a b (fun i x y => h i (by omega) (by omega))).trans (h1 k v a b (h k (Nat.le_refl _) (by omega)))
theorem bl_at {s : Nat → ww_U → ww_U} (h1 : ∀ i v a b, ¬ blk i a → s i v a b = v a b) (h2 : ∀ i v v', (∀ a b, blk i a → v' a b = v a b) → ∀ a b, blk i a → s i v' a b = s i v a b) :
    ∀ (d k : Nat) (v : ww_U) (i : Nat), k ≤ i → i < k + d → ∀ a b, blk i a → bl_it s d k v a b = s i v a b
  | 0, _, _, _, hk, hi, _, _, _ => by omega
  | d + 1, k, v, i, hk, hi, a, b, hb => by
    simp only [bl_it]
    rcases Nat.eq_or_lt_of_le hk with e | e
    · subst e
      exact bl_fr h1 d (k + 1) (s k v) a b (fun i' x y z => by unfold blk at *; omega)
    · rw [bl_at h1 h2 d (k + 1) (s k v) i (by omega) (by omega) a b hb]
      exact h2 i v (s k v) (fun a' b' hb' => h1 k v a' b' (fun z => by unfold blk at *; omega)) a b hb
def T0 (n P : Nat) (v u : ww_U) : Prop := n ≤ 8 ∧ P ≤ 60 ∧ v 29 1 = nI n ∧ u 0 1 = nI n ∧ v 29 2 = nI P ∧ u 0 12 = nI P
def TG (v u : ww_U) : Prop := ∃ g0, g0 ≤ 256 ∧ v 29 4 = nI g0 ∧ u 0 22 = nI g0 ∧ ∀ j, j < g0 → u 20 j = v 31 j &&& 255 ∧ (v 31 j).toInt8.toInt32 = v 31 j
def TH (v u : ww_U) : Prop := (v 29 5 = 0 ↔ u 0 26 ≠ 0) ∧ (v 29 6 = 0 ↔ u 0 27 ≠ 0)
def TD (P : Nat) (v u : ww_U) : Prop := (P = 0 → u 0 24 = 0) ∧ (P ≠ 0 → u 0 24 = 32 ∧ ∀ i, i < 32 → cl_oct v i = (u 21 i).toInt8.toInt32) ∧ (∀ t, t < 8 → u 22 t = ww_sq t) ∧ ∀ t, t < 64 → u 23 t = ww_cu t
def TT (n P : Nat) (v u : ww_U) : Prop := T0 n P v u ∧ TG v u ∧ TH v u ∧ TD P v u
def TA (v u : ww_U) (i : Nat) : Prop := (∃ h, 1 ≤ h ∧ h ≤ 127 ∧ v (kC i) 0 = nI h ∧ u 1 (i + 1) = nI h) ∧ v (kC i) 4 = u 3 (i + 1) ∧ v (kC i) 5 = u 5 (i + 1) ∧ v (kC i) 6 = u 6 (i + 1) ∧ (v (kC i) 8 = 0 → u 7 (i + 1) = -1) ∧ (v (kC i) 8 ≠ 0 → u 7 (i + 1) = v (kC i) 7 ∧ u 8 (i + 1) = v (kC i) 8 &&& 255)
def TB (v u : ww_U) (i : Nat) : Prop := ∀ b, b < 2 → v (kB i b) 1 = u 9 (2 * (i + 1) + b) ∧ ∀ j, j < 256 → u 10 (512 * (i + 1) + 256 * b + j) = v (kO i b) j &&& 255 ∧ (v (kO i b) j).toInt8.toInt32 = v (kO i b) j
def TK (v : ww_U) (g : Nat → Nat → Nat) (i : Nat) : Prop := v (kC i) 3 = nI (g 5 (i + 1)) ∧ v (kC i) 9 = nI (g 7 (i + 1)) ∧ ∀ b, b < 2 → v (kB i b) 2 = nI (g 8 (2 * (i + 1) + b))
def TQ (v u : ww_U) (g : Nat → Nat → Nat) (i p : Nat) : Prop := v (kP i) 4 = nI (g 3 p) ∧ v (kP i) 2 = nI p ∧ v (kP i) 6 = nI (g 2 p) ∧ v (kP i) 3 = u 12 p ∧ (v (kP i) 7 = 0 ↔ u 18 (g 2 p) = 0) ∧ (g 3 p = 1 → ∃ w len, v (kP i) 5 = nI w ∧ u 15 p = nI w ∧ v (kP i) 1 = nI len ∧ u 13 p = nI len ∧ 16 * w < len ∧ len ≤ 256 ∧ ∀ j, j < len → u 19 (256 * p + j) = v (kQ i) j &&& 255)
def TP (v u : ww_U) (g : Nat → Nat → Nat) (i : Nat) : Prop := (g 0 (i + 1) = 0 → v (kP i) 4 = 0) ∧ (g 0 (i + 1) ≠ 0 → TQ v u g i (g 0 (i + 1)))
def TC (v u : ww_U) (g : Nat → Nat → Nat) (i : Nat) : Prop := TA v u i ∧ TB v u i ∧ TK v g i ∧ TP v u g i
def TR (u : ww_U) (g : Nat → Nat → Nat) : Prop := (∀ c, c ≤ 8 → u 4 c = nI (g 0 c) ∧ u 2 c = nI (g 5 c)) ∧ (∀ p, p ≤ 60 → u 11 p = nI (g 1 p) ∧ u 17 p = nI (g 2 p) ∧ u 14 p = nI (g 3 p) ∧ u 16 p = nI (g 4 p)) ∧ u 0 28 = nI (g 6 0)
def TN (n : Nat) (u : ww_U) : Prop := ∀ c, n < c → c ≤ 8 → u 3 c = 0 ∧ u 5 c = 0 ∧ u 6 c = 0 ∧ ∀ b, b < 2 → u 9 (2 * c + b) = 0 ∧ ∀ j, j < 256 → u 10 (512 * c + 256 * b + j) = 0
def TF (P : Nat) (u : ww_U) : Prop := ∀ p, P < p → p ≤ 60 → u 15 p = 0 ∧ u 18 p = 0
def Rg (n P : Nat) (v u : ww_U) (g : Nat → Nat → Nat) : Prop := Lg n P g ∧ TT n P v u ∧ TR u g ∧ TN n u ∧ TF P u ∧ ∀ i, i < n → TC v u g i
def Rel (n P : Nat) (v u : ww_U) : Prop := ∃ g, Rg n P v u g
theorem TT_v {n P : Nat} {v v' u : ww_U} (h : ∀ a b, 29 ≤ a → a < 36 → v' a b = v a b) (t : TT n P v u) : TT n P v' u := by
  unfold TT T0 TG TH TD cl_oct at *
  simp (disch := omega) only [h]
  exact t
theorem TT_u {n P : Nat} {v u u' : ww_U} (h0 : ∀ b, b ≠ 0 → b ≠ 28 → u' 0 b = u 0 b) (h : ∀ a b, 20 ≤ a → a < 24 → u' a b = u a b) (t : TT n P v u) : TT n P v u' := by
  unfold TT T0 TG TH TD at *
  simp (disch := omega) only [h, h0]
  exact t
theorem TC_v {v v' u : ww_U} {g : Nat → Nat → Nat} {i : Nat} (h : ∀ a b, blk i a → v' a b = v a b) (t : TC v u g i) : TC v' u g i := by
  have hC : ∀ b, v' (kC i) b = v (kC i) b := fun b => h _ b (by unfold blk kC; omega)
  have hB : ∀ b j, b < 2 → v' (kB i b) j = v (kB i b) j := fun b j hb => h _ j (by unfold blk kB; omega)
  have hO : ∀ b j, b < 2 → v' (kO i b) j = v (kO i b) j := fun b j hb => h _ j (by unfold blk kO; omega)
  have hP : ∀ b, v' (kP i) b = v (kP i) b := fun b => h _ b (by unfold blk kP; omega)
  have hQ : ∀ b, v' (kQ i) b = v (kQ i) b := fun b => h _ b (by unfold blk kQ; omega)
  obtain ⟨ta, tb, tk, tp⟩ := t
  refine ⟨?_, ?_, ?_, ?_⟩
  · unfold TA at *; simp only [hC]; exact ta
  · intro b hb
    have z := tb b hb
    rw [hB b 1 hb]
    exact ⟨z.1, fun j hj => by rw [hO b j hb]; exact z.2 j hj⟩
  · unfold TK at *
    rw [hC, hC]
    exact ⟨tk.1, tk.2.1, fun b hb => by rw [hB b 2 hb]; exact tk.2.2 b hb⟩
  · unfold TP TQ at *; simp only [hP, hQ]; exact tp
theorem TA_u {v u u' : ww_U} {i : Nat} (h : ∀ a, a = 1 ∨ a = 3 ∨ a = 5 ∨ a = 6 ∨ a = 7 ∨ a = 8 → u' a (i + 1) = u a (i + 1)) (t : TA v u i) : TA v u' i := by
  unfold TA at *
  rw [h 1 (by omega), h 3 (by omega), h 5 (by omega), h 6 (by omega), h 7 (by omega), h 8 (by omega)]
  exact t
theorem TB_u {v u u' : ww_U} {i : Nat} (h : ∀ b, b < 2 → u' 9 (2 * (i + 1) + b) = u 9 (2 * (i + 1) + b)) (h' : ∀ b j, b < 2 → j < 256 → u' 10 (512 * (i + 1) + 256 * b + j) = u 10 (512 * (i + 1) + 256 * b + j)) (t : TB v u i) : TB v u' i := by
  intro b hb
  have z := t b hb
  rw [h b hb]
  exact ⟨z.1, fun j hj => by rw [h' b j hb hj]; exact z.2 j hj⟩
theorem TK_g {v : ww_U} {g g' : Nat → Nat → Nat} {i : Nat} (h5 : g' 5 (i + 1) = g 5 (i + 1)) (h7 : g' 7 (i + 1) = g 7 (i + 1)) (h8 : ∀ b, b < 2 → g' 8 (2 * (i + 1) + b) = g 8 (2 * (i + 1) + b)) (t : TK v g i) : TK v g' i := by
  unfold TK at *
  rw [h5, h7]
  exact ⟨t.1, t.2.1, fun b hb => by rw [h8 b hb]; exact t.2.2 b hb⟩
theorem TQ_u {v u u' : ww_U} {g g' : Nat → Nat → Nat} {i p : Nat} (h12 : u' 12 p = u 12 p) (h13 : u' 13 p = u 13 p) (h15 : u' 15 p = u 15 p) (h18 : u' 18 (g 2 p) = u 18 (g 2 p)) (h19 : ∀ j, j < 256 → u' 19 (256 * p + j) = u 19 (256 * p + j)) (g2 : g' 2 p = g 2 p) (g3 : g' 3 p = g 3 p) (t : TQ v u g i p) : TQ v u' g' i p := by
  unfold TQ at *
  rw [h12, h13, h15, g2, g3, h18]
  obtain ⟨t1, t2, t3, t4, t5, t6⟩ := t
  refine ⟨t1, t2, t3, t4, t5, fun z => ?_⟩
  obtain ⟨w, len, e1, e2, e3, e4, e5, e6, e7⟩ := t6 z
  exact ⟨w, len, e1, e2, e3, e4, e5, e6, fun j hj => by rw [h19 j (by omega)]; exact e7 j hj⟩
theorem TP_u {v u u' : ww_U} {g g' : Nat → Nat → Nat} {i : Nat} (h0 : g' 0 (i + 1) = g 0 (i + 1)) (hq : g 0 (i + 1) ≠ 0 → TQ v u g i (g 0 (i + 1)) → TQ v u' g' i (g 0 (i + 1))) (t : TP v u g i) : TP v u' g' i := by
  unfold TP at *
  rw [h0]
  exact ⟨t.1, fun z => hq z (t.2 z)⟩
theorem TC_u {v u u' : ww_U} {g : Nat → Nat → Nat} {i : Nat} (h : ∀ a b, a ≠ 0 → a ≠ 2 → a ≠ 4 → a ≠ 11 → a ≠ 14 → a ≠ 16 → a ≠ 17 → a < 20 → u' a b = u a b) (t : TC v u g i) : TC v u' g i := by
  obtain ⟨ta, tb, tk, tp⟩ := t
  refine ⟨TA_u (fun a ha => h a _ (by omega) (by omega) (by omega) (by omega) (by omega) (by omega) (by omega) (by omega)) ta, TB_u (fun b hb => h _ _ (by decide) (by decide) (by decide) (by decide) (by decide) (by decide) (by decide) (by decide)) (fun b j hb hj => h _ _ (by decide) (by decide) (by decide) (by decide) (by decide) (by decide) (by decide) (by decide)) tb, tk, TP_u rfl (fun _ => TQ_u ?_ ?_ ?_ ?_ (fun j hj => ?_) rfl rfl) tp⟩ <;> exact h _ _ (by decide) (by decide) (by decide) (by decide) (by decide) (by decide) (by decide) (by decide)
theorem Rg_congr {n P : Nat} {v v' u u' : ww_U} {g : Nat → Nat → Nat} (hv : ∀ a b, 29 ≤ a → v' a b = v a b) (hu : ∀ a b, a < 29 → ¬ (a = 0 ∧ b = 0) → u' a b = u a b) (h : Rg n P v u g) : Rg n P v' u' g := by
  obtain ⟨lg, tt, tr, tn, tf, tc⟩ := h
  refine ⟨lg, TT_u (fun b h1 h2 => hu 0 b (by decide) (by omega)) (fun a b h1 h2 => hu a b (by omega) (by omega)) (TT_v (fun a b h1 h2 => hv a b h1) tt), ?_, ?_, ?_, fun i hi => TC_u (fun a b h0 _ _ _ _ _ _ h9 => hu a b (by omega) (by omega)) (TC_v (fun a b hb => hv a b (by unfold blk at hb; omega)) (tc i hi))⟩
  · unfold TR at *; simp (disch := omega) only [hu]; exact tr
  · unfold TN at *; simp (disch := omega) only [hu]; exact tn
  · unfold TF at *; simp (disch := omega) only [hu]; exact tf
theorem Rel_congr {n P : Nat} {v v' u u' : ww_U} (hv : ∀ a b, 29 ≤ a → v' a b = v a b) (hu : ∀ a b, a < 29 → ¬ (a = 0 ∧ b = 0) → u' a b = u a b) (h : Rel n P v u) : Rel n P v' u' := h.elim fun g hg => ⟨g, Rg_congr hv hu hg⟩
theorem Rg_z {n P : Nat} {v u : ww_U} {g : Nat → Nat → Nat} (h : Rg n P v u g) : Rg n P v (mo_z u) g := Rg_congr (fun _ _ _ => rfl) (fun a b _ h' => by unfold mo_z; exact ww_n (by omega)) h
theorem Rel_z {n P : Nat} {v u : ww_U} (h : Rel n P v u) : Rel n P v (mo_z u) := h.elim fun g hg => ⟨g, Rg_z hg⟩
theorem Rel_z1 {n P : Nat} {v u : ww_U} {x : Int32} (h : Rel n P v u) : Rel n P v (ww_up u 0 0 x) := Rel_congr (fun _ _ _ => rfl) (fun a b _ h' => ww_n (by omega)) h
theorem i8_8 (x : Int32) : x.toInt8.toInt32.toInt8.toInt32 = x.toInt8.toInt32 := by rw [Int8.toInt8_toInt32]
theorem nar_b (x : Int32) : vp_nar .byte x = x.toInt8.toInt32 := rfl
