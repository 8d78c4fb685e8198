/-! the law's start -/
theorem st_mem_sq : ∀ j, j < 8 → Cond.eq (.elem (.static RX2 "SQUARE_ROOTS" "[I") (.int (Int32.ofNat j))) (.int (ww_sq j)) ∈ flatC (Jvm.Cond.and given_1 narrow_1) := by decide +kernel
theorem st_mem_cu : ∀ j, j < 64 → Cond.eq (.elem (.static RX2 "CUBE_ROOTS" "[I") (.int (Int32.ofNat j))) (.int (ww_cu j)) ∈ flatC (Jvm.Cond.and given_1 narrow_1) := by decide +kernel
theorem st_St {s : State} {b : Nat} {A : Nat → Prop} (hts : ∀ w ∈ lw_tbl, w.before #[Value.ref b] s = true) (hgv : (Jvm.Cond.and given_1 narrow_1).before #[Value.ref b] s = true) (hA : ∀ a : Nat, a < s.heap.size → ¬ A a) : ww_St A s s.heap := by
  have hs := flat_of_before _ hgv
  obtain ⟨t1, e1, T1⟩ := va_Tof (tm := .static RX2 "SQUARE_ROOTS" "[I") (ty := .int) (N := 8) (f := fun j => .int (ww_sq j)) (by decide) (hs _ (by decide +kernel)) (va_eqt (hs _ (by decide +kernel))) (fun j hj => va_eqt (hs _ (st_mem_sq j hj))) hA
  obtain ⟨t2, e2, T2⟩ := va_Tof (tm := .static RX2 "CUBE_ROOTS" "[I") (ty := .int) (N := 64) (f := fun j => .int (ww_cu j)) (by decide) (hs _ (by decide +kernel)) (va_eqt (hs _ (by decide +kernel))) (fun j hj => va_eqt (hs _ (st_mem_cu j hj))) hA
  exact ⟨t1, t2, ⟨va_Zref (hts _ (by decide +kernel)) (hts _ (by decide +kernel)) e1 hA, T1⟩, va_Zref (hts _ (by decide +kernel)) (hts _ (by decide +kernel)) e2 hA, T2⟩
theorem st_D : ∀ d ∈ tw_D, Cond.declares d ∈ lw_tbl := by decide +kernel
theorem st_tX {s : State} {b : Nat} {A : Nat → Prop} (hts : ∀ w ∈ lw_tbl, w.before #[Value.ref b] s = true) (hgv : (Jvm.Cond.and given_1 narrow_1).before #[Value.ref b] s = true) (hA : ∀ a : Nat, a < s.heap.size → ¬ A a) : tt_X A s s.heap := by
  have hs := flat_of_before _ hgv
  obtain ⟨a1, _, _, _, q1, _⟩ := Cond.exactly_spec (hs (.exactly (.string RX4 70) "java/lang/String") (by decide +kernel))
  obtain ⟨a2, _, _, _, q2, _⟩ := Cond.exactly_spec (hs (.exactly (.string RX4 142) "java/lang/String") (by decide +kernel))
  refine ⟨⟨a1, vk_R.of (hts _ (by decide +kernel)) q1⟩, ⟨a2, vk_R.of (hts _ (by decide +kernel)) q2⟩, vx_Zqof (hts _ (by decide +kernel)) (hts _ (by decide +kernel)) (hs _ (by decide +kernel)) hA, vx_Zqof (hts _ (by decide +kernel)) (hts _ (by decide +kernel)) (hs _ (by decide +kernel)) hA, fun d hd => ?_, ?_⟩
  · exact hts _ (st_D d hd)
  · exact hts (Cond.castable RJx00060 RJx00060) (by decide +kernel)
theorem st_ar {s : State} {b : Nat} {ty : FieldType} (h : (Cond.arrayClass ty).before #[Value.ref b] s = true) : ∃ cA : ClassId, ArrOfT s cA ty ∧ s.vm.findClass ("[" ++ ty.toString) = some cA := by
  obtain ⟨cA, kA, comp, h1, h2, h3⟩ := Cond.arrayClass_spec h
  exact ⟨cA, fun n z => ⟨fun k h => (by cases h), kA, h2, comp, h3⟩, h1⟩
theorem st_ao {s : State} {b : Nat} {C : String} (h : (Cond.arrayOver (.object C)).before #[Value.ref b] s = true) : ∃ cA : ClassId, ArrOfT s cA (.object C) ∧ va_RA s cA (.object C) := by
  obtain ⟨comp, cA, k, h1, h2, h3, h4, h5⟩ := Cond.arrayOver_spec h
  exact ⟨cA, fun n z => ⟨fun k h => (by cases h), k, h3, comp, h4⟩, k, comp, h3, h4, h1, h5⟩
theorem st_K {s : State} {b : Nat} (hts : ∀ w ∈ lw_tbl, w.before #[Value.ref b] s = true) : ∃ (D : va_G) (ca : Nat → ClassId), va_K D ww_cl (ww_ty ca) s := by
  obtain ⟨c0, i0, k0⟩ := u_known (C := RX0) (T := TX0) (N := 3) (n := 3) hts (fun w h => (lb_wsX00 w h).1) (hts _ (by decide +kernel))
  obtain ⟨c1, i1, k1⟩ := u_known (C := RX1) (T := TX1) (N := 10) (n := 10) hts (fun w h => (lb_wsX10 w h).1) (hts _ (by decide +kernel))
  obtain ⟨c2, i2, k2⟩ := u_known (C := RX2) (T := TX2) (N := 3) (n := 3) hts (fun w h => (lb_wsX20 w h).1) (hts _ (by decide +kernel))
  obtain ⟨c3, i3, k3⟩ := u_known (C := RX3) (T := TX3) (N := 8) (n := 8) hts (fun w h => (lb_wsX30 w h).1) (hts _ (by decide +kernel))
  obtain ⟨c4, i4, k4⟩ := u_known (C := RX4) (T := TX4) (N := 8) (n := 8) hts (fun w h => (lb_wsX40 w h).1) (hts _ (by decide +kernel))
  obtain ⟨c5, i5, k5⟩ := u_known (C := RX5) (T := TX5) (N := 36) (n := 36) hts (fun w h => (lb_wsX50 w h).1) (hts _ (by decide +kernel))
  obtain ⟨a0, x0, y0⟩ := st_ar (hts (Cond.arrayClass .int) (by decide +kernel))
  obtain ⟨a1, x1, y1⟩ := st_ar (hts (Cond.arrayClass .byte) (by decide +kernel))
  obtain ⟨a2, x2, y2⟩ := st_ar (hts (Cond.arrayClass .boolean) (by decide +kernel))
  obtain ⟨a3, x3, y3⟩ := st_ao (hts (Cond.arrayOver (.object RX1)) (by decide +kernel))
  obtain ⟨a4, x4, y4⟩ := st_ao (hts (Cond.arrayOver (.object RX0)) (by decide +kernel))
  refine ⟨(fun k => [c0, c1, c2, c3, c4, c5].getD k c0, fun k => [i0, i1, i2, i3, i4, i5].getD k i0), fun k => [a0, a1, a2, a3, a4].getD k a0, fun k q hq => ?_, fun k q hq => ?_⟩
  · match k, hq with
    | 0, hq => cases hq; exact k0
    | 1, hq => cases hq; exact k1
    | 2, hq => cases hq; exact k2
    | 3, hq => cases hq; exact k3
    | 4, hq => cases hq; exact k4
    | 5, hq => cases hq; exact k5
    | k + 6, hq => simp [ww_cl] at hq
  · match k, hq with
    | 0, hq => cases hq; exact ⟨x0, y0⟩
    | 1, hq => cases hq; exact ⟨x1, y1⟩
    | 2, hq => cases hq; exact ⟨x2, y2⟩
    | 3, hq => cases hq; exact ⟨x3, y3⟩
    | 4, hq => cases hq; exact ⟨x4, y4⟩
    | k + 5, hq => simp [ww_ty] at hq
def st_u : ww_U := fun k => if k < 29 then mo_u0 k else if k = 29 then (fun b => if b = 5 ∨ b = 6 then 1 else 0) else fun _ => 0
def st_B (q5 : Nat) (qs5 : List Nat) (q4 : Nat) (qs4 : List Nat) : Nat → Nat := fun k => if k < 29 then bq q5 qs5 k else (q4 :: qs4).getD (k - 29) 0
def st_l (ca : Nat → ClassId) (q4 : Nat) (qs : List Nat) : va_W := [(q4, .inr (4, [.ref (qs.getD 0 0), .int 0, .int 0, .ref (qs.getD 1 0), .int 0, .int 1, .int 1, .ref (qs.getD 2 0)])), ((qs.getD 0 0), .inl (ca 3, 8, .inr (.inr (.inr (.inr (fun _ => none)))))), ((qs.getD 1 0), .inl (ca 1, 256, .inl (fun _ => 0))), ((qs.getD 2 0), .inr (2, [.ref (qs.getD 3 0), .ref (qs.getD 4 0), .ref (qs.getD 5 0)])), ((qs.getD 3 0), .inl (ca 1, 320, .inl (fun _ => 0))), ((qs.getD 4 0), .inl (ca 0, 64, .inl (fun _ => 0))), ((qs.getD 5 0), .inl (ca 0, 8, .inl (fun _ => 0)))]
theorem st_R : Rel 0 0 st_u st_u := by
  refine re_0 (fun a b h => ?_) (fun a b h => ?_)
  · unfold st_u v_0
    rw [if_neg (by omega)]
    rcases Decidable.em (a = 29) with e | e
    · subst e
      rw [if_pos rfl]
      by_cases c : b = 5 ∨ b = 6
      · rw [if_pos c, if_pos ⟨rfl, c⟩]
      · rw [if_neg c, if_neg (fun z => c z.2)]
    · rw [if_neg e, if_neg (fun z => e z.1)]
  · unfold st_u
    rw [if_pos h]
theorem st_ce {ca : Nat → ClassId} {B B' : Nat → Nat} {f : Nat → Int32} (h : ∀ k, k < 29 → B' k = B k) : ∀ k, k < 29 → ww_ce ca B' 0 k f = ww_ce ca B 0 k f := by
  have h0 : ww_ce ca B' 0 0 f = ww_ce ca B 0 0 f := by
    show (Sum.inr (5, ww_fm B' f) : va_E) = .inr (5, ww_fm B f)
    unfold ww_fm
    rw [h 1 (by omega), h 2 (by omega), h 3 (by omega), h 4 (by omega), h 5 (by omega), h 6 (by omega), h 7 (by omega), h 8 (by omega), h 9 (by omega), h 10 (by omega), h 11 (by omega), h 12 (by omega), h 13 (by omega), h 14 (by omega), h 15 (by omega), h 16 (by omega), h 17 (by omega), h 18 (by omega), h 19 (by omega), h 20 (by omega), h 21 (by omega), h 22 (by omega), h 23 (by omega), h 24 (by omega), h 25 (by omega), h 26 (by omega), h 27 (by omega), h 28 (by omega)]
  intro k hk
  match k, hk with
  | 0, _ => exact h0
  | 1, _ => rfl
  | 2, _ => rfl
  | 3, _ => rfl
  | 4, _ => rfl
  | 5, _ => rfl
  | 6, _ => rfl
  | 7, _ => rfl
  | 8, _ => rfl
  | 9, _ => rfl
  | 10, _ => rfl
  | 11, _ => rfl
  | 12, _ => rfl
  | 13, _ => rfl
  | 14, _ => rfl
  | 15, _ => rfl
  | 16, _ => rfl
  | 17, _ => rfl
  | 18, _ => rfl
  | 19, _ => rfl
  | 20, _ => rfl
  | 21, _ => rfl
  | 22, _ => rfl
  | 23, _ => rfl
  | 24, _ => rfl
  | 25, _ => rfl
  | 26, _ => rfl
  | 27, _ => rfl
  | 28, _ => rfl
  | k + 29, hk => omega
theorem st_hi {ca : Nat → ClassId} {q5 q4 : Nat} {qs5 qs4 : List Nat} : ∀ k, k < 7 → (st_l ca q4 qs4)[k]? = some (st_B q5 qs5 q4 qs4 (29 + k), ww_ce ca (st_B q5 qs5 q4 qs4) 0 (29 + k) (st_u (29 + k))) := by
  intro k hk
  match k, hk with
  | 0, _ => rfl
  | 1, _ =>
    have e : (fun i => if i < 0 then some (st_B q5 qs5 q4 qs4 (36 + 8 * i)) else none) = (fun _ : Nat => (none : Option Nat)) := by funext i; rw [if_neg (Nat.not_lt_zero i)]
    show some (qs4.getD 0 0, (Sum.inl (ca 3, 8, .inr (.inr (.inr (.inr (fun _ => none))))) : va_E)) = some (qs4.getD 0 0, (Sum.inl (ca 3, 8, .inr (.inr (.inr (.inr (fun i => if i < 0 then some (st_B q5 qs5 q4 qs4 (36 + 8 * i)) else none))))) : va_E))
    rw [e]
  | 2, _ => rfl
  | 3, _ => rfl
  | 4, _ => rfl
  | 5, _ => rfl
  | 6, _ => rfl
  | k + 7, hk => omega
theorem st_at {ca : Nat → ClassId} {q5 q4 ao : Nat} {qs5 qs4 : List Nat} {cG : ClassId} {f : Nat → Int64} : ∀ (k : Nat) (q : Nat × va_E), (ww_l ca (st_B q5 qs5 q4 qs4) 36 0 st_u (ld_X ao cG f))[k]? = some q → ((st_l ca q4 qs4 ++ ww_l ca (bq q5 qs5) 29 0 mo_u0 []) ++ ld_X ao cG f)[if k < 29 then 7 + k else if k < 36 then k - 29 else k]? = some q := by
  intro k q hq
  have hlen : (ww_l ca (bq q5 qs5) 29 0 mo_u0 []).length = 29 := by unfold ww_l; simp
  rcases Nat.lt_or_ge k 36 with c | c
  · rw [ww_at c] at hq
    rcases Nat.lt_or_ge k 29 with d | d
    · rw [if_pos d, List.getElem?_append_left (by rw [List.length_append, hlen]; show 7 + k < 7 + 29; omega), List.getElem?_append_right (by show 7 ≤ 7 + k; omega)]
      show (ww_l ca (bq q5 qs5) 29 0 mo_u0 [])[7 + k - 7]? = some q
      rw [show 7 + k - 7 = k by omega, ww_at d, ← hq]
      have e1 : st_B q5 qs5 q4 qs4 k = bq q5 qs5 k := by unfold st_B; rw [if_pos d]
      have e2 : st_u k = mo_u0 k := by unfold st_u; rw [if_pos d]
      rw [e1, e2, st_ce (B := bq q5 qs5) (B' := st_B q5 qs5 q4 qs4) (fun k hk => by unfold st_B; rw [if_pos hk]) k d]
    · rw [if_neg (by omega), if_pos c, List.getElem?_append_left (by rw [List.length_append, hlen]; show k - 29 < 7 + 29; omega), List.getElem?_append_left (by show k - 29 < 7; omega), st_hi (q5 := q5) (qs5 := qs5) (k - 29) (by omega), ← hq, show 29 + (k - 29) = k by omega]
  · rw [if_neg (by omega), if_neg (by omega)]
    unfold ww_l at hq
    rw [List.getElem?_append_right (by simp; omega)] at hq
    rw [List.getElem?_append_right (by rw [List.length_append, hlen]; show 7 + 29 ≤ k; omega)]
    have e1 : ((List.range 36).map (fun k => (st_B q5 qs5 q4 qs4 k, ww_ce ca (st_B q5 qs5 q4 qs4) 0 k (st_u k)))).length = 36 := by simp
    rw [e1] at hq
    rw [List.length_append, hlen]
    exact hq
theorem st_P {D : va_G} {ca : Nat → ClassId} {q5 q4 ao : Nat} {qs5 qs4 : List Nat} {cG : ClassId} {f : Nat → Int64} {H : Heap} (h : va_P D ww_cl ((st_l ca q4 qs4 ++ ww_l ca (bq q5 qs5) 29 0 mo_u0 []) ++ ld_X ao cG f) H) : va_P D ww_cl (ww_l ca (st_B q5 qs5 q4 qs4) 36 0 st_u (ld_X ao cG f)) H :=
  fun k q hq => h _ q (st_at k q hq)
theorem st_DD {A : Nat → Prop} {ca : Nat → ClassId} {q5 q4 ao : Nat} {qs5 qs4 : List Nat} {cG : ClassId} {f : Nat → Int64} (h : va_D A ((st_l ca q4 qs4 ++ ww_l ca (bq q5 qs5) 29 0 mo_u0 []) ++ ld_X ao cG f)) : va_D A (ww_l ca (st_B q5 qs5 q4 qs4) 36 0 st_u (ld_X ao cG f)) := by
  refine ⟨fun i j x y hi hj e => ?_, fun k q hq => h.2 _ q (st_at k q hq)⟩
  have z := h.1 _ _ x y (st_at i x hi) (st_at j y hj) e
  split at z
  · split at z
    · omega
    · split at z <;> omega
  · split at z
    · split at z
      · omega
      · split at z <;> omega
    · split at z
      · omega
      · split at z <;> omega
