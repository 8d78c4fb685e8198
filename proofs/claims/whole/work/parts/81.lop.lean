/-! each call of the law: the class's contract and the reference's, with one answer -/
theorem rng (x : Int32) {n : Nat} (hn : n ≤ 8) : (x < 1 ∨ nI n < x) ∨ ∃ j, j < n ∧ x = nI (j + 1) := by
  rcases pk_ix x (n := n + 1) (by omega) with h | h | ⟨j, hj, rfl⟩
  · refine Or.inl (Or.inl ?_)
    rw [Int32.lt_iff_toInt_lt] at h ⊢
    have a : (0 : Int32).toInt = 0 := rfl
    have b : (1 : Int32).toInt = 1 := rfl
    omega
  · exact Or.inl (Or.inr (Int32.lt_of_lt_of_le (nI_lt (Nat.lt_succ_self n) (by omega)) h))
  · match j, hj with
    | 0, _ => exact Or.inl (Or.inl (by decide))
    | j + 1, hj => exact Or.inr ⟨j, by omega, rfl⟩
theorem rng1 {j : Nat} (hj : j < 60) : ¬ nI (j + 1) < 1 := nI_nlt (b := 1) (by omega) (by omega)
section LO
variable {D : va_G} {ca : Nat → ClassId} {B : Nat → Nat} {n P : Nat} {X : va_W} {u : ww_U}
def lo_2 (l : Launch) (y4 : MethodName) (ws4 : List Cond) (rm4 : Room) (y5 : MethodName) (ws5 : List Cond) (rm5 : Room) (D : va_G) (ca : Nat → ClassId) (B : Nat → Nat) (n : Nat) (X : va_W) (u : ww_U) (As : List Value) : Prop :=
  ∃ (r : Int32) (u1 u2 : ww_U) (P' : Nat), ww_M l y4 ws4 rm4 D ca B (36 + 8 * n) n X u (.ref (B 29) :: As) (some (.int r)) u1 ∧ ww_M l y5 ws5 rm5 D ca B (36 + 8 * n) n X u1 (.ref (B 0) :: As) (some (.int r)) u2 ∧ Rel n P' u2 u2
theorem lo_step (l : Launch) (hR : Rel n P u u) (x : Int32) : lo_2 l yX4_step wsX4_step ({ frames := 4, cells := 0, slots := 0, locals := 86 } : Room) yX5_step wsX5_step ({ frames := 3, cells := 0, slots := 0, locals := 68 } : Room) D ca B n X u [.int x] := by
  obtain ⟨a1, a2, a3, a4, a5, a6⟩ := as_n hR
  rcases rng x a1 with h | ⟨j, hj, rfl⟩
  · exact ⟨-1, u, mo_z u, P, ct_X4_step0 l (by rw [a3]; exact h) (Nat.le_refl _), ct_X5_step0 l (by rw [a4]; exact h) (by omega), Rel_go hR (fun _ _ _ => rfl) Rel_z (fun a b h => fm_z h)⟩
  · have R1 := Rel_c hR (w1 := (cu_step n u j).1) (fun a b h => fc_step h)
    have z := re_step R1 hj
    obtain ⟨_, b2, _, b4, _, b6⟩ := as_n R1
    refine ⟨_, _, _, P, ct_X4_step l j (by omega) hj rfl (rng1 (by omega)) (by rw [a3]; exact nI_le (by omega) (by omega)) a1 a3 (as_run hR) (as_wr hR hj) (Nat.le_refl _), ?_, Rel_congr (fun a b h => fm_step h) (fun _ _ _ _ => rfl) z.2⟩
    rw [z.1]
    exact ct_X5_step l (by omega) (by omega) rfl (by rw [b4]; exact nI_le (by omega) (by omega)) a2 b6 (as_of R1) (as_opn R1 _ (by omega)) (as_se R1) (as_ru R1 _ (by omega)) (as_mwr R1 hj) (by omega)
theorem lo_boot (l : Launch) (hR : Rel n P u u) (x : Int32) : lo_2 l yX4_boot wsX4_boot ({ frames := 3, cells := 0, slots := 0, locals := 65 } : Room) yX5_boot wsX5_boot ({ frames := 3, cells := 0, slots := 0, locals := 68 } : Room) D ca B n X u [.int x] := by
  obtain ⟨a1, a2, a3, a4, a5, a6⟩ := as_n hR
  rcases rng x a1 with h | ⟨j, hj, rfl⟩
  · exact ⟨-1, u, mo_z u, P, ct_X4_boot0 l (by rw [a3]; exact h) (Nat.le_refl _), ct_X5_boot0 l (by rw [a4]; exact h) (by omega), Rel_go hR (fun _ _ _ => rfl) Rel_z (fun a b h => fm_z h)⟩
  · have R1 := Rel_c hR (w1 := cu_boot n u j) (fun a b h => fc_boot h)
    have z := re_boot R1 hj
    obtain ⟨_, b2, _, b4, _, b6⟩ := as_n R1
    refine ⟨_, _, _, P, ct_X4_boot l j (by omega) hj rfl (rng1 (by omega)) (by rw [a3]; exact nI_le (by omega) (by omega)) a1 a3 (as_run hR) (Nat.le_refl _), ?_, Rel_congr (fun a b h => fm_boot h) (fun _ _ _ _ => rfl) z.2⟩
    rw [z.1]
    exact ct_X5_boot l (by omega) (by omega) rfl (by rw [b4]; exact nI_le (by omega) (by omega)) a2 b6 (as_of R1) (as_opn R1 _ (by omega)) (as_se R1) (as_ru R1 _ (by omega)) (by omega)
theorem lo_counter (l : Launch) (hR : Rel n P u u) (x : Int32) : lo_2 l yX4_counter wsX4_counter ({ frames := 1, cells := 0, slots := 0, locals := 21 } : Room) yX5_counter wsX5_counter ({ frames := 1, cells := 0, slots := 0, locals := 21 } : Room) D ca B n X u [.int x] := by
  obtain ⟨a1, a2, a3, a4, a5, a6⟩ := as_n hR
  have RZ : Rel n P (mo_z u) (mo_z u) := Rel_go hR (fun _ _ _ => rfl) Rel_z (fun a b h => fm_z h)
  rcases rng x a1 with h | ⟨j, hj, rfl⟩
  · exact ⟨-1, u, mo_z u, P, ct_X4_counter0 l (by rw [a3]; exact h) (Nat.le_refl _), ct_X5_counter0 l (by rw [a4]; exact h) (by omega), RZ⟩
  · refine ⟨_, _, _, P, ct_X4_counter l j (by omega) hj rfl (rng1 (by omega)) (by rw [a3]; exact nI_le (by omega) (by omega)) (Nat.le_refl _), ?_, RZ⟩
    rw [re_counter hR hj]
    exact ct_X5_counter l (by omega) (by omega) rfl (by rw [a4]; exact nI_le (by omega) (by omega)) (by omega)
theorem lo_silent (l : Launch) (hR : Rel n P u u) (x z : Int32) (hz : z = 0 ∨ z = 1) : lo_2 l yX4_silent wsX4_silent ({ frames := 1, cells := 0, slots := 0, locals := 21 } : Room) yX5_silent wsX5_silent ({ frames := 1, cells := 0, slots := 0, locals := 21 } : Room) D ca B n X u [.int x, .int z] := by
  obtain ⟨a1, a2, a3, a4, a5, a6⟩ := as_n hR
  rcases rng x a1 with h | ⟨j, hj, rfl⟩
  · exact ⟨-1, u, mo_z u, P, ct_X4_silent0 l (by rw [a3]; exact h) z (Nat.le_refl _), ct_X5_silent0 l (by rw [a4]; exact h) z (by omega), Rel_go hR (fun _ _ _ => rfl) Rel_z (fun a b h => fm_z h)⟩
  · have R1 := Rel_c hR (w1 := ww_up u (kC j) 6 z) (fun a b h => ww_n (by simp only [kC]; omega))
    have y := re_silent R1 hj z
    obtain ⟨_, b2, _, b4, _, b6⟩ := as_n R1
    refine ⟨_, _, _, P, ct_X4_silent l j (by omega) hj rfl (rng1 (by omega)) (by rw [a3]; exact nI_le (by omega) (by omega)) z hz (Nat.le_refl _), ?_, Rel_congr (fun a b h => ?_) (fun _ _ _ _ => rfl) y.2⟩
    · rw [y.1]
      exact ct_X5_silent l (by omega) (by omega) rfl (by rw [b4]; exact nI_le (by omega) (by omega)) z hz (by omega)
    · rw [ww_n (by omega), fm_z h]
theorem lo_block (l : Launch) (hR : Rel n P u u) (x y z : Int32) (hz : z.toInt8.toInt32 = z) : lo_2 l yX4_block wsX4_block ({ frames := 1, cells := 0, slots := 0, locals := 21 } : Room) yX5_block wsX5_block ({ frames := 1, cells := 0, slots := 0, locals := 21 } : Room) D ca B n X u [.int x, .int y, .int z] := by
  obtain ⟨a1, a2, a3, a4, a5, a6⟩ := as_n hR
  rcases rng x a1 with h | ⟨j, hj, rfl⟩
  · exact ⟨-1, u, mo_z u, P, ct_X4_block0 l (by rw [a3]; exact h) y z (Nat.le_refl _), ct_X5_block0 l (by rw [a4]; exact h) y z (by omega), Rel_go hR (fun _ _ _ => rfl) Rel_z (fun a b h => fm_z h)⟩
  · have R1 := Rel_c hR (w1 := (cu_block u j y z).1) (fun a b h => fc_block h)
    have w := re_block R1 hj y z
    obtain ⟨_, b2, _, b4, _, b6⟩ := as_n R1
    refine ⟨_, _, _, P, ct_X4_block l j (by omega) hj rfl (rng1 (by omega)) (by rw [a3]; exact nI_le (by omega) (by omega)) y z hz (Nat.le_refl _), ?_, Rel_congr (fun a b h => fm_block h) (fun _ _ _ _ => rfl) w.2⟩
    rw [w.1]
    exact ct_X5_block l (by omega) (by omega) rfl (by rw [b4]; exact nI_le (by omega) (by omega)) y z (by omega)
theorem lo_cond (l : Launch) (hR : Rel n P u u) (x z : Int32) (hz : z = 0 ∨ z = 1) : lo_2 l yX4_condition wsX4_condition ({ frames := 1, cells := 0, slots := 0, locals := 20 } : Room) yX5_condition wsX5_condition ({ frames := 1, cells := 0, slots := 0, locals := 20 } : Room) D ca B n X u [.int x, .int z] := by
  have R1 := Rel_c hR (w1 := (cu_cond u x z).1) (fun a b h => fc_cond h)
  have w := re_cond R1 x z hz
  refine ⟨_, _, _, P, ct_X4_condition l x z hz (Nat.le_refl _), ?_, Rel_congr (fun a b h => fm_cond h) (fun _ _ _ _ => rfl) w.2⟩
  rw [w.1]
  exact ct_X5_condition l x z (by omega)
theorem lo_cut (l : Launch) (hR : Rel n P u u) : lo_2 l yX4_cut wsX4_cut ({ frames := 1, cells := 0, slots := 0, locals := 20 } : Room) yX5_cut wsX5_cut ({ frames := 1, cells := 0, slots := 0, locals := 21 } : Room) D ca B n X u [] := by
  obtain ⟨a1, a2, a3, a4, a5, a6⟩ := as_n hR
  have R1 := Rel_c hR (w1 := (cu_cut n 0 u 0).1) (fun a b h => fc_cut n 0 u 0 h)
  have w := re_cut0 R1
  obtain ⟨_, b2, _, b4, _, b6⟩ := as_n R1
  refine ⟨_, _, _, P, ct_X4_cut l (Nat.le_refl _) a1 a3, ?_, Rel_congr (fun a b h => ?_) (fun _ _ _ _ => rfl) w.2⟩
  · rw [w.1]
    exact ct_X5_cut l a1 b4 (as_opn R1) (by omega)
  · rw [fm_cut n 1 _ 0 h, fm_z h]
theorem lo_joint (l : Launch) (hR : Rel n P u u) : lo_2 l yX4_joint wsX4_joint ({ frames := 2, cells := 0, slots := 0, locals := 41 } : Room) yX5_joint wsX5_joint ({ frames := 0, cells := 0, slots := 0, locals := 0 } : Room) D ca B n X u [] := by
  obtain ⟨a1, a2, a3, a4, a5, a6⟩ := as_n hR
  refine ⟨_, _, _, P, ct_X4_joint l (Nat.le_refl _) a1 a3 (as_run hR), ?_, Rel_go hR (fun _ _ _ => rfl) Rel_z (fun a b h => fm_z h)⟩
  rw [re_joint hR]
  exact ct_X5_joint l a2 a6 (as_of hR) (by omega)
theorem lo_rollback (l : Launch) (hR : Rel n P u u) : lo_2 l yX4_rollback wsX4_rollback ({ frames := 2, cells := 0, slots := 0, locals := 42 } : Room) yX5_rollback wsX5_rollback ({ frames := 1, cells := 0, slots := 0, locals := 21 } : Room) D ca B n X u [] := by
  obtain ⟨a1, a2, a3, a4, a5, a6⟩ := as_n hR
  have R1 := Rel_c hR (w1 := (cu_rollback n u).1) (fun a b h => fc_rb h)
  have w := re_rollback R1
  obtain ⟨_, b2, _, b4, _, b6⟩ := as_n R1
  refine ⟨_, _, _, P, ct_X4_rollback l (Nat.le_refl _) a1 a3 (as_run hR), ?_, Rel_congr (fun a b h => fm_rb h) (fun _ _ _ _ => rfl) w.2⟩
  rw [w.1]
  exact ct_X5_rollback l a2 b6 (as_of R1) (as_ru R1) (by omega)
theorem rngP (x : Int32) {P : Nat} (hP : P ≤ 60) : (x < 1 ∨ nI P < x) ∨ ∃ p, 1 ≤ p ∧ p ≤ P ∧ x = nI p := by
  rcases pk_ix x (n := P + 1) (by omega) with h | h | ⟨j, hj, rfl⟩
  · refine Or.inl (Or.inl ?_)
    rw [Int32.lt_iff_toInt_lt] at h ⊢
    have a : (0 : Int32).toInt = 0 := rfl
    have b : (1 : Int32).toInt = 1 := rfl
    omega
  · exact Or.inl (Or.inr (Int32.lt_of_lt_of_le (nI_lt (Nat.lt_succ_self P) (by omega)) h))
  · match j, hj with
    | 0, _ => exact Or.inl (Or.inl (by decide))
    | j + 1, hj => exact Or.inr ⟨j + 1, by omega, by omega, rfl⟩
theorem lo_needs (l : Launch) (hR : Rel n P u u) (y z : Int32) : lo_2 l yX4_needs wsX4_needs ({ frames := 2, cells := 0, slots := 0, locals := 46 } : Room) yX5_needs wsX5_needs ({ frames := 1, cells := 0, slots := 0, locals := 21 } : Room) D ca B n X u [.int y, .int z] := by
  obtain ⟨a1, a2, a3, a4, a5, a6⟩ := as_n hR
  have no : (y < 1 ∨ u 0 12 < y ∨ z < 1 ∨ u 0 12 < z) → lo_2 l yX4_needs wsX4_needs ({ frames := 2, cells := 0, slots := 0, locals := 46 } : Room) yX5_needs wsX5_needs ({ frames := 1, cells := 0, slots := 0, locals := 21 } : Room) D ca B n X u [.int y, .int z] := by
    intro h
    have z4 := ct_X4_needs l (D := D) (ca := ca) (B := B) (N := 36 + 8 * n) (X := X) y z (Nat.le_refl _) a1 a3
    rw [re_needs0 hR h] at z4
    exact ⟨-1, u, mo_z u, P, z4, ct_X5_needs0 l h (by omega), Rel_go hR (fun _ _ _ => rfl) Rel_z (fun a b h => fm_z h)⟩
  rcases rngP y a2 with h | ⟨p, p1, p2, rfl⟩
  · exact no (by rw [a6]; exact h.elim Or.inl (fun w => Or.inr (Or.inl w)))
  · rcases rngP z a2 with h | ⟨q, q1, q2, rfl⟩
    · exact no (by rw [a6]; exact Or.inr (Or.inr h))
    · have R1 := Rel_c hR (w1 := (cu_needs n u (nI p) (nI q)).1) (fun a b h => fc_needs h)
      have w := re_needs R1 p1 p2 q1 q2
      obtain ⟨_, b2, _, b4, _, b6⟩ := as_n R1
      refine ⟨_, _, _, P, ct_X4_needs l (nI p) (nI q) (Nat.le_refl _) a1 a3, ?_, Rel_congr (fun a b h => fm_needs h) (fun _ _ _ _ => rfl) w.2⟩
      rw [w.1]
      exact ct_X5_needs l a2 b6 p1 p2 rfl q1 q2 rfl (as_of R1) (as_se R1) (by omega)
theorem lo_pack (l : Launch) (hR : Rel n P u u) (x ed z : Int32) : lo_2 l yX4_package0 wsX4_package0 ({ frames := 4, cells := 0, slots := 0, locals := 99 } : Room) yX5_package0 wsX5_package0 ({ frames := 2, cells := 0, slots := 0, locals := 55 } : Room) D ca B n X u [.int x, .int ed, .int z] := by
  obtain ⟨a1, a2, a3, a4, a5, a6⟩ := as_n hR
  rcases rng x a1 with h | ⟨j, hj, rfl⟩
  · exact ⟨-1, u, mo_z u, P, ct_X4_package00 l (by rw [a3]; exact h) ed z (Nat.le_refl _), ct_X5_package00 l (by rw [a4]; exact h) ed z (by omega), Rel_go hR (fun _ _ _ => rfl) Rel_z (fun a b h => fm_z h)⟩
  · obtain ⟨g0, g1, g2, _⟩ := re_pack hR hj ed z
    have R1 := Rel_c hR (w1 := (cu_pack u j ed z g0).1) (fun a b h => fc_pack h)
    obtain ⟨g0', g1', g2', g3', w1, P', w2⟩ := re_pack R1 hj ed z
    have e : g0' = g0 := (nI_eq (by omega) (by omega)).mp (g2'.symm.trans g2)
    subst e
    obtain ⟨_, b2, _, b4, _, b6⟩ := as_n R1
    refine ⟨_, _, _, P', ct_X4_package0 l j (by omega) hj rfl (rng1 (by omega)) (by rw [a3]; exact nI_le (by omega) (by omega)) ed z g1' g2' (Nat.le_refl _), ?_, Rel_congr (fun a b h => fm_pack h) (fun _ _ _ _ => rfl) w2⟩
    rw [w1]
    exact ct_X5_package0 l (by omega) (by omega) rfl (by rw [b4]; exact nI_le (by omega) (by omega)) a2 b6 (as_opn R1 _ (by omega)) g1' g3' ed z (by omega)
theorem lo_octet (l : Launch) (hR : Rel n P u u) (x : Int32) : ∃ (u1 u2 : ww_U) (P' : Nat), ww_M l yX4_octet wsX4_octet ({ frames := 0, cells := 0, slots := 0, locals := 0 } : Room) D ca B (36 + 8 * n) n X u [.ref (B 29), .int x] none u1 ∧ ww_M l yX5_octet wsX5_octet ({ frames := 0, cells := 0, slots := 0, locals := 0 } : Room) D ca B (36 + 8 * n) n X u1 [.ref (B 0), .int x] none u2 ∧ Rel n P' u2 u2 := by
  obtain ⟨g0, g1, g2, _⟩ := re_oct hR x
  have R1 := Rel_c hR (w1 := cu_octet u x g0) (fun a b h => fc_oct h)
  obtain ⟨g0', g1', g2', g3', w2⟩ := re_oct R1 x
  have e : g0' = g0 := (nI_eq (by omega) (by omega)).mp (g2'.symm.trans g2)
  subst e
  exact ⟨_, _, P, ct_X4_octet l x g1' g2' (Nat.le_refl _), ct_X5_octet l x g1' g3' (by omega), Rel_congr (fun a b h => fm_oct h) (fun _ _ _ _ => rfl) w2⟩
theorem lo_ctl0 (l : Launch) (hR : Rel n P u u) (x : Int32) (h : ¬ (¬ x < 1 ∧ x ≤ 127 ∧ n < 8)) : lo_2 l yX4_controller wsX4_controller ({ frames := 0, cells := 0, slots := 0, locals := 0 } : Room) yX5_controller wsX5_controller ({ frames := 0, cells := 0, slots := 0, locals := 0 } : Room) D ca B n X u [.int x] := by
  obtain ⟨a1, a2, a3, a4, a5, a6⟩ := as_n hR
  have RZ : Rel n P (mo_z u) (mo_z u) := Rel_go hR (fun _ _ _ => rfl) Rel_z (fun a b h => fm_z h)
  have M5 := ct_X5_controller l (D := D) (ca := ca) (B := B) (N := 36 + 8 * n) (n := n) (X := X) (u := u) x a1 a4 (by omega)
  by_cases c1 : x < 1
  · rw [show mo_ctl n u x = (mo_z u, -2) by unfold mo_ctl; rw [if_pos c1]] at M5
    exact ⟨_, _, _, P, ct_X4_controller0 l x (Or.inl c1) (Nat.le_refl _), M5, RZ⟩
  · by_cases c2 : x ≤ 127
    · have e : n = 8 := by
        have : ¬ n < 8 := fun w => h ⟨c1, c2, w⟩
        omega
      rw [show mo_ctl n u x = (mo_z u, -4) by unfold mo_ctl; rw [if_neg c1, if_pos c2, if_pos e]] at M5
      exact ⟨_, _, _, P, ct_X4_controller1 l x c1 c2 (by rw [a3, e]; decide) (Nat.le_refl _), M5, RZ⟩
    · rw [show mo_ctl n u x = (mo_z u, -2) by unfold mo_ctl; rw [if_neg c1, if_neg c2]] at M5
      exact ⟨_, _, _, P, ct_X4_controller0 l x (Or.inr (Int32.not_le.mp c2)) (Nat.le_refl _), M5, RZ⟩
end LO
