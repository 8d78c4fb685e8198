theorem st_kw4 : ww_K lw_tbl RX4 TX4 8 tyX4 := ⟨fun w h => (lb_wsX40 w h).1, tyX4_ok, nmX4⟩
theorem st_kw5 : ww_K lw_tbl RX5 TX5 36 tyX5 := ⟨fun w h => (lb_wsX50 w h).1, tyX5_ok, nmX5⟩
theorem st_m1 : Cond.classLink RL 8 RX4 ∈ lw_tbl ∧ Cond.instantiable RX4 8 ∈ lw_tbl ∧ Cond.initialized RX4 ∈ lw_tbl ∧ Cond.methodLink RL 19 yX4_init ∈ lw_tbl ∧ Cond.instanceMethod yX4_init ∈ lw_tbl := by decide +kernel
theorem st_m2 : Cond.classLink RL 20 RX5 ∈ lw_tbl ∧ Cond.instantiable RX5 36 ∈ lw_tbl ∧ Cond.initialized RX5 ∈ lw_tbl ∧ Cond.methodLink RL 22 yX5_init ∈ lw_tbl ∧ Cond.instanceMethod yX5_init ∈ lw_tbl := by decide +kernel
theorem st_m3 : Cond.arrayClass .long ∈ lw_tbl ∧ Cond.arrayOver (.object RX0) ∈ lw_tbl ∧ Cond.arrayOver (.object RX1) ∈ lw_tbl := by decide +kernel
set_option maxHeartbeats 4000000 in
set_option maxRecDepth 100000 in
/-- from the entry, for every script of at most 2560 ints, the law comes to its end with true -/
theorem whole_start {p : Program} {e : Env} {s : State} {m : MethodId} {below : List Frame} {meth : Method} {c : Code} (l : Launch) (hst : l.stackTraces = false) {b L : Nat} {xs : Nat → Int32} (hL : L ≤ 2560) (C0 : lw_At p s m meth c b L xs) : W p l e room_1 s m #[Value.ref b] below meth c s.heap [] 0 0 (lw_Z below #[Value.ref b] s) (entryFrame m ([Value.ref b] : List Value).toArray 7) := by
  obtain ⟨hx, hb, hr, hml, hown, hts, hX, hbl, hlocks, hgv⟩ := id C0
  have hAn : ∀ a : Nat, a < s.heap.size → ¬ (fun q : Nat => s.heap.size ≤ q) a := fun a h => Nat.not_le.mpr h
  obtain ⟨D, ca, hK⟩ := st_K hts
  have hSt : ww_St (fun q : Nat => s.heap.size ≤ q) s s.heap := st_St hts hgv hAn
  have tX : tt_X (fun q : Nat => s.heap.size ≤ q) s s.heap := st_tX hts hgv hAn
  have ho0 : va_AO RX0 s := va_AO.of (hts _ st_m3.2.1)
  have ho1 : va_AO RX1 s := va_AO.of (hts _ st_m3.2.2)
  have C : ww_C D ca RL code 7 lw_tbl ret (fun q : Nat => s.heap.size ≤ q) p s m #[Value.ref b] meth c := ⟨⟨hx, hb, hml, hown, hts⟩, hr, hlocks, hK, fun _ h => h, hSt⟩
  have hl := lv_entry ([.ref b]) (n := 7) (Nat.le_of_ble_eq_true rfl)
  rw [lg_entry_eq]
  generalize (lg_sl ([.ref b]) ++ List.replicate (7 - (lg_sl ([.ref b])).length) Slot.unset).toArray = ls at hl ⊢
  have hl : lv_has ls 7 [(0, .ref b)] := hl
  have hN0 : wl_N D (([] : va_W) ++ []) (fun q : Nat => s.heap.size ≤ q) s.heap s.heap [] := ⟨fun k q h => by simp at h, ⟨fun i j p q h => by simp at h, fun k q h => by simp at h⟩, va_S.rf⟩
  refine ll_new C hN0 (ci := 4) (fs := [.null, .int 0, .int 0, .null, .int 0, .int 0, .int 0, .null]) st_kw4 rfl st_m1.1 st_m1.2.1 st_m1.2.2.1 (fun j hj => by rcases (show j = 0 ∨ j = 1 ∨ j = 2 ∨ j = 3 ∨ j = 4 ∨ j = 5 ∨ j = 6 ∨ j = 7 by omega) with rfl | rfl | rfl | rfl | rfl | rfl | rfl | rfl <;> rfl) (Nat.le_of_ble_eq_true rfl) (Nat.le_of_ble_eq_true rfl) dL_law_0 (fun q4 H hN1 => ?_)
  have hN1 : wl_N D (([] : va_W) ++ [(q4, .inr (4, [.null, .int 0, .int 0, .null, .int 0, .int 0, .int 0, .null]))]) (fun q : Nat => s.heap.size ≤ q) s.heap H [] := hN1
  refine lv_dup hx hb dL_law_3 rfl ?_
  refine ll_call (av := []) C ho0 ho1 hN1 (wc_X4_init l (ca := ca) [] q4) lk_wsX4_init rfl rfl rfl st_m1.2.2.1 st_m1.2.2.2.1 st_m1.2.2.2.2 rfl 0 (by decide +kernel) ⟨Nat.le_of_ble_eq_true rfl, Nat.le_of_ble_eq_true rfl⟩ rfl hl.1 rfl (Nat.le_of_ble_eq_true rfl) ⟨Nat.le_of_ble_eq_true rfl, Nat.le_of_ble_eq_true rfl⟩ dL_law_4 (fun qs4 H locs hN2 => ?_)
  have hN2 : wl_N D (st_l ca q4 qs4 ++ []) (fun q : Nat => s.heap.size ≤ q) s.heap H locs := hN2
  refine W.widen (k := 7) (n := 667) (by decide) (by decide) ?_
  refine lv_astore_n (lv' := [(1, .ref q4), (0, .ref b)]) hx hb dL_law_7 rfl hl (by decide) rfl (fun ls hl => ?_)
  refine ll_new C hN2 (ci := 5) (fs := [.int 0, .int 0, .null, .null, .null, .null, .null, .null, .null, .null, .null, .null, .int 0, .null, .null, .null, .null, .null, .null, .null, .null, .null, .int 0, .null, .int 0, .null, .int 0, .int 0, .int 0, .null, .null, .null, .null, .null, .null, .null]) st_kw5 rfl st_m2.1 st_m2.2.1 st_m2.2.2.1 (fun j hj => by rcases (show j = 0 ∨ j = 1 ∨ j = 2 ∨ j = 3 ∨ j = 4 ∨ j = 5 ∨ j = 6 ∨ j = 7 ∨ j = 8 ∨ j = 9 ∨ j = 10 ∨ j = 11 ∨ j = 12 ∨ j = 13 ∨ j = 14 ∨ j = 15 ∨ j = 16 ∨ j = 17 ∨ j = 18 ∨ j = 19 ∨ j = 20 ∨ j = 21 ∨ j = 22 ∨ j = 23 ∨ j = 24 ∨ j = 25 ∨ j = 26 ∨ j = 27 ∨ j = 28 ∨ j = 29 ∨ j = 30 ∨ j = 31 ∨ j = 32 ∨ j = 33 ∨ j = 34 ∨ j = 35 by omega) with rfl | rfl | rfl | rfl | rfl | rfl | rfl | rfl | rfl | rfl | rfl | rfl | rfl | rfl | rfl | rfl | rfl | rfl | rfl | rfl | rfl | rfl | rfl | rfl | rfl | rfl | rfl | rfl | rfl | rfl | rfl | rfl | rfl | rfl | rfl | rfl <;> rfl) (Nat.le_of_ble_eq_true rfl) (Nat.le_of_ble_eq_true rfl) dL_law_8 (fun q5 H hN3 => ?_)
  have hN3 : wl_N D (st_l ca q4 qs4 ++ [(q5, .inr (5, [.int 0, .int 0, .null, .null, .null, .null, .null, .null, .null, .null, .null, .null, .int 0, .null, .null, .null, .null, .null, .null, .null, .null, .null, .int 0, .null, .int 0, .null, .int 0, .int 0, .int 0, .null, .null, .null, .null, .null, .null, .null]))]) (fun q : Nat => s.heap.size ≤ q) s.heap H locs := hN3
  refine lv_dup hx hb dL_law_11 rfl ?_
  refine ll_call (av := []) C ho0 ho1 hN3 (wc_X5_init l (ca := ca) (st_l ca q4 qs4) q5) lk_wsX5_init rfl rfl rfl st_m2.2.2.1 st_m2.2.2.2.1 st_m2.2.2.2.2 rfl 0 (by decide +kernel) ⟨Nat.le_of_ble_eq_true rfl, Nat.le_of_ble_eq_true rfl⟩ rfl hl.1 rfl (Nat.le_of_ble_eq_true rfl) ⟨Nat.le_of_ble_eq_true rfl, Nat.le_of_ble_eq_true rfl⟩ dL_law_12 (fun qs5 H locs hN4 => ?_)
  have hN4 : wl_N D (st_l ca q4 qs4 ++ ww_l ca (bq q5 qs5) 29 0 mo_u0 []) (fun q : Nat => s.heap.size ≤ q) s.heap H locs := hN4
  refine W.widen (k := 36) (n := 21969) (by decide) (by decide) ?_
  refine lv_astore_n (lv' := [(2, .ref q5), (1, .ref q4), (0, .ref b)]) hx hb dL_law_15 rfl hl (by decide) rfl (fun ls hl => ?_)
  refine lv_iconst (v := 1) hx hb dL_law_16 (by decide) ?_
  refine va_newa (atype := .long) (ty := .long) hx hb (hts _ st_m3.1) rfl hK hN4.1 hN4.2.1 hN4.2.2 (fun _ h => h) (N' := 1) (a0 := (1, .inr (.inl (fun _ => 0)))) (fun cA => rfl) (by decide) rfl (by decide) (Nat.le_of_ble_eq_true rfl) (Nat.le_of_ble_eq_true rfl) dL_law_17 (fun ao cG H hKG hP5 hD5 hS5 => ?_)
  refine lv_astore_n (lv' := [(3, .ref ao), (2, .ref q5), (1, .ref q4), (0, .ref b)]) hx hb dL_law_19 rfl hl (by decide) rfl (fun ls hl => ?_)
  refine lv_iconst (v := 0) hx hb dL_law_20 (by decide) ?_
  refine lv_istore (lv' := [(4, .int (nI 0)), (3, .ref ao), (2, .ref q5), (1, .ref q4), (0, .ref b)]) hx hb dL_law_21 hl (by decide) rfl (fun ls hl => ?_)
  refine W.widen (k := 40 + 10 * 0) (n := 22000 + 1200 * 0) (by decide) (by decide) ?_
  exact lz_loop C hKG tX ⟨ho0, ho1⟩ hX hbl hL hst L 0 0 (st_B q5 qs5 q4 qs4) st_u (fun _ => 0) ls H locs (by omega) (by omega) ⟨⟨0, st_R⟩, ⟨st_P hP5, st_DD hD5, hS5⟩, lv_sub hl [4, 3, 2, 1, 0] rfl, rfl, rfl⟩
