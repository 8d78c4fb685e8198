/-! the law's digest and bank, beside the reference's -/
section LDB
variable {D : va_G} {ca : Nat → ClassId} {B : Nat → Nat} {n P ao : Nat} {cG : ClassId} {f : Nat → Int64} {u : ww_U}
theorem lo_dig (l : Launch) (hst : l.stackTraces = false) (hR : Rel n P u u) (x : Int32) :
    (∃ (r : Int32) (u2 : ww_U) (P' : Nat), ld_M l yL_digest (tw_W wsL_digest) ({ frames := 8, cells := 1, slots := 6, locals := 120 } : Room) D ca B (36 + 8 * n) n u ao cG f [.ref (B 29), .int x, .ref ao] 1 f 1 6 ∧ ww_M l yX5_digest wsX5_digest ({ frames := 0, cells := 0, slots := 0, locals := 0 } : Room) D ca B (36 + 8 * n) n (ld_X ao cG f) u [.ref (B 0), .int x] (some (.int r)) u2 ∧ u2 0 0 = 1 ∧ Rel n P' u2 u2) ∨
    (∃ (r : Int32) (u2 : ww_U) (P' : Nat), ld_M l yL_digest (tw_W wsL_digest) ({ frames := 8, cells := 0, slots := 0, locals := 120 } : Room) D ca B (36 + 8 * n) n u ao cG f [.ref (B 29), .int x, .ref ao] 0 (vp_updL f 0 r.toInt64) 0 0 ∧ ww_M l yX5_digest wsX5_digest ({ frames := 0, cells := 0, slots := 0, locals := 0 } : Room) D ca B (36 + 8 * n) n (ld_X ao cG (vp_updL f 0 r.toInt64)) u [.ref (B 0), .int x] (some (.int r)) u2 ∧ u2 0 0 = 0 ∧ Rel n P' u2 u2) := by
  by_cases h : u 29 2 = 0 ∨ x < 0 ∨ ¬ x < 32
  · exact Or.inl ⟨0, ww_up u 0 0 1, P, wt_L_digest l hst h (Nat.le_refl _), ct_X5_digest0 l (re_dig0 hR h) (by omega), ww_e rfl rfl, Rel_go hR (fun _ _ _ => rfl) Rel_z1 (fun a b h => ww_n (by omega))⟩
  · have hp : ¬ u 29 2 = 0 := fun z => h (Or.inl z)
    have hi : ∃ i, i < 32 ∧ x = nI i := by
      rcases pk_ix x (n := 32) (by decide) with z | z | z
      · exact absurd (Or.inr (Or.inl z)) h
      · exact absurd (Or.inr (Or.inr (Int32.not_lt.mpr z))) h
      · exact z
    obtain ⟨i, hi, rfl⟩ := hi
    obtain ⟨d1, d2⟩ := re_dig hR hp hi
    refine Or.inr ⟨cl_oct u i, mo_z u, P, wr_L_digest l hst hi rfl hp (Nat.le_refl _), ?_, ww_e rfl rfl, Rel_go hR (fun _ _ _ => rfl) Rel_z (fun a b h => fm_z h)⟩
    have M5 := ct_X5_digest l (D := D) (ca := ca) (B := B) (N := 36 + 8 * n) (n := n) (X := ld_X ao cG (vp_updL f 0 (cl_oct u i).toInt64)) hi rfl d1 (by omega)
    rw [← d2] at M5
    exact M5
theorem lN_of {i : Int64} {k : Nat} (hk : k < 2 ^ 31) (h1 : ¬ i < 0) (h2 : i < lN k) : ∃ j, j < k ∧ i = lN j := by
  rw [Int64.lt_iff_toInt_lt] at h1 h2
  have z : (0 : Int64).toInt = 0 := rfl
  rw [lN_toInt hk] at h2
  refine ⟨i.toInt.toNat, by omega, Int64.toInt_inj.mp ?_⟩
  rw [lN_toInt (by omega)]
  omega
theorem lo_bank (l : Launch) (hst : l.stackTraces = false) (hR : Rel n P u u) (x y : Int32) (i : Int64) :
    (∃ (r : Int32) (u2 : ww_U) (P' : Nat), ld_M l yL_bank (tw_W wsL_bank) ({ frames := 8, cells := 1, slots := 6, locals := 120 } : Room) D ca B (36 + 8 * n) n u ao cG f [.ref (B 29), .int x, .int y, .long i, .ref ao] 1 f 1 6 ∧ ww_M l yX5_bank wsX5_bank ({ frames := 1, cells := 0, slots := 0, locals := 21 } : Room) D ca B (36 + 8 * n) n (ld_X ao cG f) u [.ref (B 0), .int x, .int y, .long i] (some (.int r)) u2 ∧ u2 0 0 = 1 ∧ Rel n P' u2 u2) ∨
    (∃ (r : Int32) (u2 : ww_U) (P' : Nat), ld_M l yL_bank (tw_W wsL_bank) ({ frames := 8, cells := 0, slots := 0, locals := 120 } : Room) D ca B (36 + 8 * n) n u ao cG f [.ref (B 29), .int x, .int y, .long i, .ref ao] 0 (vp_updL f 0 r.toInt64) 0 0 ∧ ww_M l yX5_bank wsX5_bank ({ frames := 1, cells := 0, slots := 0, locals := 21 } : Room) D ca B (36 + 8 * n) n (ld_X ao cG (vp_updL f 0 r.toInt64)) u [.ref (B 0), .int x, .int y, .long i] (some (.int r)) u2 ∧ u2 0 0 = 0 ∧ Rel n P' u2 u2) := by
  obtain ⟨a1, a2, a3, a4, a5, a6⟩ := as_n hR
  have RZ : Rel n P (mo_z u) (mo_z u) := Rel_go hR (fun _ _ _ => rfl) Rel_z (fun a b h => fm_z h)
  have RU : ∀ w, Rel n P (ww_up (mo_z u) 0 0 w) (ww_up (mo_z u) 0 0 w) := fun w => Rel_go RZ (fun _ _ _ => rfl) Rel_z1 (fun a b h => ww_n (by omega))
  rcases rng x a1 with h | ⟨j, hj, rfl⟩
  · exact Or.inr ⟨0, mo_z u, P, wr_L_bank0 l hst (by rw [a3]; exact h) y i (Nat.le_refl _), ct_X5_bank0 l (by rw [a4]; exact h) y i (by omega), ww_e rfl rfl, RZ⟩
  · have x4 : nI (j + 1) ≤ u 29 1 := by rw [a3]; exact nI_le (by omega) (by omega)
    have x5 : nI (j + 1) ≤ u 0 1 := by rw [a4]; exact nI_le (by omega) (by omega)
    by_cases h : y < 0 ∨ 2 ≤ y ∨ i < 0 ∨ ¬ i < 256
    · refine Or.inl ⟨0, ww_up (mo_z u) 0 0 1, P, wt_L_bank l hst j (by omega) hj rfl (rng1 (by omega)) x4 h (Nat.le_refl _), ct_X5_bank1 l (by omega) (by omega) rfl x5 ?_ (by omega), ww_e rfl rfl, RU 1⟩
      rcases h with h | h | h | h
      · exact Or.inl h
      · refine Or.inr (Or.inl ?_)
        rw [Int32.le_iff_toInt_le] at h
        rw [Int32.lt_iff_toInt_lt]
        have e1 : (2 : Int32).toInt = 2 := rfl
        have e2 : (1 : Int32).toInt = 1 := rfl
        omega
      · exact Or.inr (Or.inr (Or.inl h))
      · refine Or.inr (Or.inr (Or.inr ?_))
        rw [Int64.lt_iff_toInt_lt] at h ⊢
        have e1 : (256 : Int64).toInt = 256 := rfl
        have e2 : (255 : Int64).toInt = 255 := rfl
        omega
    · have hy : ∃ b0, b0 < 2 ∧ y = nI b0 := by
        rcases pk_ix y (n := 2) (by decide) with z | z | z
        · exact absurd (Or.inl z) h
        · exact absurd (Or.inr (Or.inl z)) h
        · exact z
      obtain ⟨b0, hb0, rfl⟩ := hy
      obtain ⟨i0, hi0, rfl⟩ := lN_of (k := 256) (i := i) (by decide) (fun z => h (Or.inr (Or.inr (Or.inl z)))) (Decidable.byContradiction (fun z => h (Or.inr (Or.inr (Or.inr z)))))
      obtain ⟨d1, d2⟩ := re_bank hR hj hb0 hi0
      refine Or.inr ⟨u (kO j b0) i0, ww_up (mo_z u) 0 0 0, P, wr_L_bank2 l hst j (by omega) hj rfl (rng1 (by omega)) x4 hb0 rfl hi0 rfl d1 (Nat.le_refl _), ?_, ww_e rfl rfl, RU 0⟩
      have M5 := ct_X5_bank2 l (D := D) (ca := ca) (B := B) (N := 36 + 8 * n) (n := n) (X := ld_X ao cG (vp_updL f 0 (u (kO j b0) i0).toInt64)) (q := j + 1) (by omega) (by omega) rfl x5 hb0 rfl hi0 rfl (by omega)
      rw [← d2] at M5
      exact M5
end LDB
