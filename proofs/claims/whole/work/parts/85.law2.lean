theorem lw_ldc : Cond.constantLong RL 75 4294967295 ∈ lw_tbl := by decide +kernel
section LZ
variable {p : Program} {l : Launch} {e : Env} {s : State} {m : MethodId} {below : List Frame} {meth : Method} {c : Code} {D : va_G} {ca : Nat → ClassId} {cG : ClassId} {b L : Nat} {xs : Nat → Int32} {x0 m0 ao t n : Nat} {B : Nat → Nat} {u : ww_U} {f : Nat → Int64} {ls : Array Slot} {H : Heap} {locs : List Loc}
set_option maxHeartbeats 4000000 in
set_option maxRecDepth 100000 in
theorem lz_3 (F : lf_F D ca cG l p s m b L xs meth c t) (I : lf_I D ca cG s b x0 m0 ao (5 * t) n B u f ls H locs) (K : lf_K D ca cG l p e s m below meth c b x0 m0 ao t) : W p l e room_1 s m #[Value.ref b] below meth c H locs (40 + 10 * t) (22000 + 1200 * t) (lw_Z below #[Value.ref b] s) (F0 m 227 ls []) := by
  obtain ⟨C, hKG, tX, ⟨ho0, ho1⟩, hX, hbl, hL, ht, hst⟩ := F
  obtain ⟨⟨P, hR⟩, hN, hl, rfl, rfl⟩ := I
  have hbA : ¬ (fun q : Nat => s.heap.size ≤ q) b := Nat.not_le.mpr hbl
  have hx := C.1.1
  have hb := C.1.2.1
  have hfit := lf_fit ht hL
  have hfl : 40 + 10 * t ≤ room_1.cells ∧ 22000 + 1200 * t ≤ room_1.slots := ⟨by omega, by omega⟩
  have hi1 : vp_in (nI (5 * t) + 1) L := lf_in (k := 1) rfl (by omega) hL
  have hi2 : vp_in (nI (5 * t) + 2) L := lf_in (k := 2) rfl (by omega) hL
  have hi3 : vp_in (nI (5 * t) + 3) L := lf_in (k := 3) rfl (by omega) hL
  have hi4 : vp_in (nI (5 * t) + 4) L := lf_in (k := 4) rfl (by omega) hL
  rcases lo_dig l hst (D := D) (ca := ca) (B := B) (ao := ao) (cG := cG) (f := f) hR (xs (nI (5 * t) + 1).toNatClampNeg) with ⟨r, u2, P', M4, M5, h0, hR2⟩ | ⟨r, u2, P', M4, M5, h0, hR2⟩
  · refine lv_aload_n hx hb dL_law_227 rfl (lv_at hl 1 rfl) ?_
    refine lv_aload_n hx hb dL_law_228 rfl (lv_at hl 0 rfl) ?_
    refine lv_iload hx hb dL_law_229 (lv_at hl 4 rfl) ?_
    refine lv_iconst (v := 1) hx hb dL_law_231 (by decide) ?_
    refine lv_iadd hx hb dL_law_232 ?_
    refine va_sld hx hb hX hbl hbA hN.2.2 hi1 dL_law_233 ?_
    refine lv_aload_n hx hb dL_law_234 rfl (lv_at hl 3 rfl) ?_
    refine ld_call (As := [.ref (B 29), .int (xs (nI (5 * t) + 1).toNatClampNeg), .ref ao]) C hKG tX hN M4 lc_L_digest rfl rfl rfl 3 (by decide +kernel) ⟨Nat.le_of_ble_eq_true rfl, Nat.le_of_ble_eq_true rfl⟩ rfl hl.1 rfl (Nat.le_of_ble_eq_true rfl) ⟨by omega, by omega⟩ dL_law_235 (fun H locs hN => ?_)
    refine lv_istore (lv' := [(5, .int 1), (0, .ref b), (1, .ref (B 29)), (2, .ref (B 0)), (3, .ref ao), (4, .int (nI (5 * t)))]) hx hb dL_law_238 hl (by decide) rfl (fun ls hl => ?_)
    refine lv_aload_n hx hb dL_law_240 rfl (lv_at hl 3 rfl) ?_
    refine lv_aload_n hx hb dL_law_241 rfl (lv_at hl 1 rfl) ?_
    refine lv_iload hx hb dL_law_242 (lv_at hl 5 rfl) ?_
    refine lv_iconst (v := 1) hx hb dL_law_244 (by decide) ?_
    refine lv_iadd hx hb dL_law_245 ?_
    refine va_sld hx hb hX hbl hbA hN.2.2 hi1 dL_law_246 ?_
    refine rr_callV (As := [.int (xs (nI (5 * t) + 1).toNatClampNeg)]) C hN 0 (by omega) rfl rfl rfl M5 lc_X5_digest rfl rfl rfl 1 (by decide +kernel) ⟨Nat.le_of_ble_eq_true rfl, Nat.le_of_ble_eq_true rfl⟩ rfl hl.1 rfl (Nat.le_of_ble_eq_true rfl) ⟨by omega, by omega⟩ dL_law_247 (fun H locs hN => ?_)
    refine lv_istore (lv' := [(6, .int r), (5, .int 1), (0, .ref b), (1, .ref (B 29)), (2, .ref (B 0)), (3, .ref ao), (4, .int (nI (5 * t)))]) hx hb dL_law_250 hl (by decide) rfl (fun ls hl => ?_)
    refine lv_aload_n hx hb dL_law_252 rfl (lv_at hl 4 rfl) ?_
    refine rr_callV (As := []) C hN 0 (by omega) rfl rfl rfl (ct_X5_thrown l (by omega)) lc_X5_thrown rfl rfl rfl 0 (by decide +kernel) ⟨Nat.le_of_ble_eq_true rfl, Nat.le_of_ble_eq_true rfl⟩ rfl hl.1 rfl (Nat.le_of_ble_eq_true rfl) ⟨by omega, by omega⟩ dL_law_253 (fun H locs hN => ?_)
    refine lv_iload hx hb dL_law_256 (lv_at hl 1 rfl) ?_
    refine lv_icmp_eq (tgt := 263) hx hb dL_law_258 (by decide) (fun _ => ?_) (fun c9 => absurd h0 c9)
    refine lv_iload hx hb dL_law_263 (lv_at hl 1 rfl) ?_
    refine lv_if_ne (tgt := 280) hx hb dL_law_265 (by decide) (fun _ => ?_) (fun c9 => absurd c9 (by decide))
    refine lv_goto (tgt := 703) hx hb dL_law_280 (by decide) ?_
    refine W.widen (k := 40 + 10 * (t + 1)) (n := 22000 + 1200 * (t + 1)) (by omega) (by omega) ?_
    exact K n B u2 _ ls H locs ⟨⟨P', hR2⟩, hN, lv_sub hl [2, 3, 4, 5, 6] rfl, rfl, rfl⟩
  · refine lv_aload_n hx hb dL_law_227 rfl (lv_at hl 1 rfl) ?_
    refine lv_aload_n hx hb dL_law_228 rfl (lv_at hl 0 rfl) ?_
    refine lv_iload hx hb dL_law_229 (lv_at hl 4 rfl) ?_
    refine lv_iconst (v := 1) hx hb dL_law_231 (by decide) ?_
    refine lv_iadd hx hb dL_law_232 ?_
    refine va_sld hx hb hX hbl hbA hN.2.2 hi1 dL_law_233 ?_
    refine lv_aload_n hx hb dL_law_234 rfl (lv_at hl 3 rfl) ?_
    refine ld_call (As := [.ref (B 29), .int (xs (nI (5 * t) + 1).toNatClampNeg), .ref ao]) C hKG tX hN M4 lc_L_digest rfl rfl rfl 3 (by decide +kernel) ⟨Nat.le_of_ble_eq_true rfl, Nat.le_of_ble_eq_true rfl⟩ rfl hl.1 rfl (Nat.le_of_ble_eq_true rfl) ⟨by omega, by omega⟩ dL_law_235 (fun H locs hN => ?_)
    refine lv_istore (lv' := [(5, .int 0), (0, .ref b), (1, .ref (B 29)), (2, .ref (B 0)), (3, .ref ao), (4, .int (nI (5 * t)))]) hx hb dL_law_238 hl (by decide) rfl (fun ls hl => ?_)
    refine lv_aload_n hx hb dL_law_240 rfl (lv_at hl 3 rfl) ?_
    refine lv_aload_n hx hb dL_law_241 rfl (lv_at hl 1 rfl) ?_
    refine lv_iload hx hb dL_law_242 (lv_at hl 5 rfl) ?_
    refine lv_iconst (v := 1) hx hb dL_law_244 (by decide) ?_
    refine lv_iadd hx hb dL_law_245 ?_
    refine va_sld hx hb hX hbl hbA hN.2.2 hi1 dL_law_246 ?_
    refine rr_callV (As := [.int (xs (nI (5 * t) + 1).toNatClampNeg)]) C hN 0 (by omega) rfl rfl rfl M5 lc_X5_digest rfl rfl rfl 1 (by decide +kernel) ⟨Nat.le_of_ble_eq_true rfl, Nat.le_of_ble_eq_true rfl⟩ rfl hl.1 rfl (Nat.le_of_ble_eq_true rfl) ⟨by omega, by omega⟩ dL_law_247 (fun H locs hN => ?_)
    refine lv_istore (lv' := [(6, .int r), (5, .int 0), (0, .ref b), (1, .ref (B 29)), (2, .ref (B 0)), (3, .ref ao), (4, .int (nI (5 * t)))]) hx hb dL_law_250 hl (by decide) rfl (fun ls hl => ?_)
    refine lv_aload_n hx hb dL_law_252 rfl (lv_at hl 4 rfl) ?_
    refine rr_callV (As := []) C hN 0 (by omega) rfl rfl rfl (ct_X5_thrown l (by omega)) lc_X5_thrown rfl rfl rfl 0 (by decide +kernel) ⟨Nat.le_of_ble_eq_true rfl, Nat.le_of_ble_eq_true rfl⟩ rfl hl.1 rfl (Nat.le_of_ble_eq_true rfl) ⟨by omega, by omega⟩ dL_law_253 (fun H locs hN => ?_)
    refine lv_iload hx hb dL_law_256 (lv_at hl 1 rfl) ?_
    refine lv_icmp_eq (tgt := 263) hx hb dL_law_258 (by decide) (fun _ => ?_) (fun c9 => absurd h0 c9)
    refine lv_iload hx hb dL_law_263 (lv_at hl 1 rfl) ?_
    refine lv_if_ne (tgt := 280) hx hb dL_law_265 (by decide) (fun c9 => absurd c9 (fun w => w rfl)) (fun _ => ?_)
    refine lv_aload_n hx hb dL_law_268 rfl (lv_at hl 5 rfl) ?_
    refine lv_iconst (v := 0) hx hb dL_law_269 (by decide) ?_
    refine va_lald hx hb hKG hN.1 (36 + 8 * n) 5 ld_at rfl (by unfold vp_in; decide) dL_law_270 ?_
    refine lv_iload hx hb dL_law_271 (lv_at hl 0 rfl) ?_
    refine lv_i2l hx hb dL_law_273 rfl ?_
    refine W.lcmp hx hb dL_law_274 ?_
    refine lv_if_eq (tgt := 280) hx hb dL_law_275 (by decide) (fun _ => ?_) (fun c9 => absurd ((lg_cmp_eq _ _).mpr rfl) c9)
    refine lv_goto (tgt := 703) hx hb dL_law_280 (by decide) ?_
    refine W.widen (k := 40 + 10 * (t + 1)) (n := 22000 + 1200 * (t + 1)) (by omega) (by omega) ?_
    exact K n B u2 _ ls H locs ⟨⟨P', hR2⟩, hN, lv_sub hl [2, 3, 4, 5, 6] rfl, rfl, rfl⟩
set_option maxHeartbeats 4000000 in
set_option maxRecDepth 100000 in
theorem lz_10 (F : lf_F D ca cG l p s m b L xs meth c t) (I : lf_I D ca cG s b x0 m0 ao (5 * t) n B u f ls H locs) (K : lf_K D ca cG l p e s m below meth c b x0 m0 ao t) : W p l e room_1 s m #[Value.ref b] below meth c H locs (40 + 10 * t) (22000 + 1200 * t) (lw_Z below #[Value.ref b] s) (F0 m 487 ls []) := by
  obtain ⟨C, hKG, tX, ⟨ho0, ho1⟩, hX, hbl, hL, ht, hst⟩ := F
  obtain ⟨⟨P, hR⟩, hN, hl, rfl, rfl⟩ := I
  have hbA : ¬ (fun q : Nat => s.heap.size ≤ q) b := Nat.not_le.mpr hbl
  have hx := C.1.1
  have hb := C.1.2.1
  have hfit := lf_fit ht hL
  have hfl : 40 + 10 * t ≤ room_1.cells ∧ 22000 + 1200 * t ≤ room_1.slots := ⟨by omega, by omega⟩
  have hi1 : vp_in (nI (5 * t) + 1) L := lf_in (k := 1) rfl (by omega) hL
  have hi2 : vp_in (nI (5 * t) + 2) L := lf_in (k := 2) rfl (by omega) hL
  have hi3 : vp_in (nI (5 * t) + 3) L := lf_in (k := 3) rfl (by omega) hL
  have hi4 : vp_in (nI (5 * t) + 4) L := lf_in (k := 4) rfl (by omega) hL
  rcases lo_bank l hst (D := D) (ca := ca) (B := B) (ao := ao) (cG := cG) (f := f) hR (xs (nI (5 * t) + 1).toNatClampNeg) (xs (nI (5 * t) + 2).toNatClampNeg) ((xs (nI (5 * t) + 3).toNatClampNeg).toInt64 <<< ((32 : Int32).toInt64 &&& 63) ||| (xs (nI (5 * t) + 4).toNatClampNeg).toInt64 &&& 4294967295) with ⟨r, u2, P', M4, M5, h0, hR2⟩ | ⟨r, u2, P', M4, M5, h0, hR2⟩
  · refine lv_aload_n hx hb dL_law_487 rfl (lv_at hl 1 rfl) ?_
    refine lv_aload_n hx hb dL_law_488 rfl (lv_at hl 0 rfl) ?_
    refine lv_iload hx hb dL_law_489 (lv_at hl 4 rfl) ?_
    refine lv_iconst (v := 1) hx hb dL_law_491 (by decide) ?_
    refine lv_iadd hx hb dL_law_492 ?_
    refine va_sld hx hb hX hbl hbA hN.2.2 hi1 dL_law_493 ?_
    refine lv_aload_n hx hb dL_law_494 rfl (lv_at hl 0 rfl) ?_
    refine lv_iload hx hb dL_law_495 (lv_at hl 4 rfl) ?_
    refine lv_iconst (v := 2) hx hb dL_law_497 (by decide) ?_
    refine lv_iadd hx hb dL_law_498 ?_
    refine va_sld hx hb hX hbl hbA hN.2.2 hi2 dL_law_499 ?_
    refine lv_aload_n hx hb dL_law_500 rfl (lv_at hl 0 rfl) ?_
    refine lv_iload hx hb dL_law_501 (lv_at hl 4 rfl) ?_
    refine lv_iconst (v := 3) hx hb dL_law_503 (by decide) ?_
    refine lv_iadd hx hb dL_law_504 ?_
    refine va_sld hx hb hX hbl hbA hN.2.2 hi3 dL_law_505 ?_
    refine lv_i2l hx hb dL_law_506 rfl ?_
    refine lv_bipush (v := 32) hx hb dL_law_507 (by decide) ?_
    refine lv_lshl hx hb dL_law_509 rfl ?_
    refine lv_aload_n hx hb dL_law_510 rfl (lv_at hl 0 rfl) ?_
    refine lv_iload hx hb dL_law_511 (lv_at hl 4 rfl) ?_
    refine lv_iconst (v := 4) hx hb dL_law_513 (by decide) ?_
    refine lv_iadd hx hb dL_law_514 ?_
    refine va_sld hx hb hX hbl hbA hN.2.2 hi4 dL_law_515 ?_
    refine lv_i2l hx hb dL_law_516 rfl ?_
    refine lv_ldc2 (v := 4294967295) hx hb C.1.2.2.2.1 (C.1.2.2.2.2 _ lw_ldc) dL_law_517 ?_
    refine lv_land hx hb dL_law_520 ?_
    refine lv_lor hx hb dL_law_521 ?_
    refine lv_aload_n hx hb dL_law_522 rfl (lv_at hl 3 rfl) ?_
    refine ld_call (As := [.ref (B 29), .int (xs (nI (5 * t) + 1).toNatClampNeg), .int (xs (nI (5 * t) + 2).toNatClampNeg), .long ((xs (nI (5 * t) + 3).toNatClampNeg).toInt64 <<< ((32 : Int32).toInt64 &&& 63) ||| (xs (nI (5 * t) + 4).toNatClampNeg).toInt64 &&& 4294967295), .ref ao]) C hKG tX hN M4 lc_L_bank rfl rfl rfl 5 (by decide +kernel) ⟨Nat.le_of_ble_eq_true rfl, Nat.le_of_ble_eq_true rfl⟩ rfl hl.1 rfl (Nat.le_of_ble_eq_true rfl) ⟨by omega, by omega⟩ dL_law_523 (fun H locs hN => ?_)
    refine lv_istore (lv' := [(5, .int 1), (0, .ref b), (1, .ref (B 29)), (2, .ref (B 0)), (3, .ref ao), (4, .int (nI (5 * t)))]) hx hb dL_law_526 hl (by decide) rfl (fun ls hl => ?_)
    refine lv_aload_n hx hb dL_law_528 rfl (lv_at hl 3 rfl) ?_
    refine lv_aload_n hx hb dL_law_529 rfl (lv_at hl 1 rfl) ?_
    refine lv_iload hx hb dL_law_530 (lv_at hl 5 rfl) ?_
    refine lv_iconst (v := 1) hx hb dL_law_532 (by decide) ?_
    refine lv_iadd hx hb dL_law_533 ?_
    refine va_sld hx hb hX hbl hbA hN.2.2 hi1 dL_law_534 ?_
    refine lv_aload_n hx hb dL_law_535 rfl (lv_at hl 1 rfl) ?_
    refine lv_iload hx hb dL_law_536 (lv_at hl 5 rfl) ?_
    refine lv_iconst (v := 2) hx hb dL_law_538 (by decide) ?_
    refine lv_iadd hx hb dL_law_539 ?_
    refine va_sld hx hb hX hbl hbA hN.2.2 hi2 dL_law_540 ?_
    refine lv_aload_n hx hb dL_law_541 rfl (lv_at hl 1 rfl) ?_
    refine lv_iload hx hb dL_law_542 (lv_at hl 5 rfl) ?_
    refine lv_iconst (v := 3) hx hb dL_law_544 (by decide) ?_
    refine lv_iadd hx hb dL_law_545 ?_
    refine va_sld hx hb hX hbl hbA hN.2.2 hi3 dL_law_546 ?_
    refine lv_i2l hx hb dL_law_547 rfl ?_
    refine lv_bipush (v := 32) hx hb dL_law_548 (by decide) ?_
    refine lv_lshl hx hb dL_law_550 rfl ?_
    refine lv_aload_n hx hb dL_law_551 rfl (lv_at hl 1 rfl) ?_
    refine lv_iload hx hb dL_law_552 (lv_at hl 5 rfl) ?_
    refine lv_iconst (v := 4) hx hb dL_law_554 (by decide) ?_
    refine lv_iadd hx hb dL_law_555 ?_
    refine va_sld hx hb hX hbl hbA hN.2.2 hi4 dL_law_556 ?_
    refine lv_i2l hx hb dL_law_557 rfl ?_
    refine lv_ldc2 (v := 4294967295) hx hb C.1.2.2.2.1 (C.1.2.2.2.2 _ lw_ldc) dL_law_558 ?_
    refine lv_land hx hb dL_law_561 ?_
    refine lv_lor hx hb dL_law_562 ?_
    refine rr_callV (As := [.int (xs (nI (5 * t) + 1).toNatClampNeg), .int (xs (nI (5 * t) + 2).toNatClampNeg), .long ((xs (nI (5 * t) + 3).toNatClampNeg).toInt64 <<< ((32 : Int32).toInt64 &&& 63) ||| (xs (nI (5 * t) + 4).toNatClampNeg).toInt64 &&& 4294967295)]) C hN 0 (by omega) rfl rfl rfl M5 lc_X5_bank rfl rfl rfl 3 (by decide +kernel) ⟨Nat.le_of_ble_eq_true rfl, Nat.le_of_ble_eq_true rfl⟩ rfl hl.1 rfl (Nat.le_of_ble_eq_true rfl) ⟨by omega, by omega⟩ dL_law_563 (fun H locs hN => ?_)
    refine lv_istore (lv' := [(6, .int r), (5, .int 1), (0, .ref b), (1, .ref (B 29)), (2, .ref (B 0)), (3, .ref ao), (4, .int (nI (5 * t)))]) hx hb dL_law_566 hl (by decide) rfl (fun ls hl => ?_)
    refine lv_aload_n hx hb dL_law_568 rfl (lv_at hl 4 rfl) ?_
    refine rr_callV (As := []) C hN 0 (by omega) rfl rfl rfl (ct_X5_thrown l (by omega)) lc_X5_thrown rfl rfl rfl 0 (by decide +kernel) ⟨Nat.le_of_ble_eq_true rfl, Nat.le_of_ble_eq_true rfl⟩ rfl hl.1 rfl (Nat.le_of_ble_eq_true rfl) ⟨by omega, by omega⟩ dL_law_569 (fun H locs hN => ?_)
    refine lv_iload hx hb dL_law_572 (lv_at hl 1 rfl) ?_
    refine lv_icmp_eq (tgt := 579) hx hb dL_law_574 (by decide) (fun _ => ?_) (fun c9 => absurd h0 c9)
    refine lv_iload hx hb dL_law_579 (lv_at hl 1 rfl) ?_
    refine lv_if_ne (tgt := 596) hx hb dL_law_581 (by decide) (fun _ => ?_) (fun c9 => absurd c9 (by decide))
    refine lv_goto (tgt := 703) hx hb dL_law_596 (by decide) ?_
    refine W.widen (k := 40 + 10 * (t + 1)) (n := 22000 + 1200 * (t + 1)) (by omega) (by omega) ?_
    exact K n B u2 _ ls H locs ⟨⟨P', hR2⟩, hN, lv_sub hl [2, 3, 4, 5, 6] rfl, rfl, rfl⟩
  · refine lv_aload_n hx hb dL_law_487 rfl (lv_at hl 1 rfl) ?_
    refine lv_aload_n hx hb dL_law_488 rfl (lv_at hl 0 rfl) ?_
    refine lv_iload hx hb dL_law_489 (lv_at hl 4 rfl) ?_
    refine lv_iconst (v := 1) hx hb dL_law_491 (by decide) ?_
    refine lv_iadd hx hb dL_law_492 ?_
    refine va_sld hx hb hX hbl hbA hN.2.2 hi1 dL_law_493 ?_
    refine lv_aload_n hx hb dL_law_494 rfl (lv_at hl 0 rfl) ?_
    refine lv_iload hx hb dL_law_495 (lv_at hl 4 rfl) ?_
    refine lv_iconst (v := 2) hx hb dL_law_497 (by decide) ?_
    refine lv_iadd hx hb dL_law_498 ?_
    refine va_sld hx hb hX hbl hbA hN.2.2 hi2 dL_law_499 ?_
    refine lv_aload_n hx hb dL_law_500 rfl (lv_at hl 0 rfl) ?_
    refine lv_iload hx hb dL_law_501 (lv_at hl 4 rfl) ?_
    refine lv_iconst (v := 3) hx hb dL_law_503 (by decide) ?_
    refine lv_iadd hx hb dL_law_504 ?_
    refine va_sld hx hb hX hbl hbA hN.2.2 hi3 dL_law_505 ?_
    refine lv_i2l hx hb dL_law_506 rfl ?_
    refine lv_bipush (v := 32) hx hb dL_law_507 (by decide) ?_
    refine lv_lshl hx hb dL_law_509 rfl ?_
    refine lv_aload_n hx hb dL_law_510 rfl (lv_at hl 0 rfl) ?_
    refine lv_iload hx hb dL_law_511 (lv_at hl 4 rfl) ?_
    refine lv_iconst (v := 4) hx hb dL_law_513 (by decide) ?_
    refine lv_iadd hx hb dL_law_514 ?_
    refine va_sld hx hb hX hbl hbA hN.2.2 hi4 dL_law_515 ?_
    refine lv_i2l hx hb dL_law_516 rfl ?_
    refine lv_ldc2 (v := 4294967295) hx hb C.1.2.2.2.1 (C.1.2.2.2.2 _ lw_ldc) dL_law_517 ?_
    refine lv_land hx hb dL_law_520 ?_
    refine lv_lor hx hb dL_law_521 ?_
    refine lv_aload_n hx hb dL_law_522 rfl (lv_at hl 3 rfl) ?_
    refine ld_call (As := [.ref (B 29), .int (xs (nI (5 * t) + 1).toNatClampNeg), .int (xs (nI (5 * t) + 2).toNatClampNeg), .long ((xs (nI (5 * t) + 3).toNatClampNeg).toInt64 <<< ((32 : Int32).toInt64 &&& 63) ||| (xs (nI (5 * t) + 4).toNatClampNeg).toInt64 &&& 4294967295), .ref ao]) C hKG tX hN M4 lc_L_bank rfl rfl rfl 5 (by decide +kernel) ⟨Nat.le_of_ble_eq_true rfl, Nat.le_of_ble_eq_true rfl⟩ rfl hl.1 rfl (Nat.le_of_ble_eq_true rfl) ⟨by omega, by omega⟩ dL_law_523 (fun H locs hN => ?_)
    refine lv_istore (lv' := [(5, .int 0), (0, .ref b), (1, .ref (B 29)), (2, .ref (B 0)), (3, .ref ao), (4, .int (nI (5 * t)))]) hx hb dL_law_526 hl (by decide) rfl (fun ls hl => ?_)
    refine lv_aload_n hx hb dL_law_528 rfl (lv_at hl 3 rfl) ?_
    refine lv_aload_n hx hb dL_law_529 rfl (lv_at hl 1 rfl) ?_
    refine lv_iload hx hb dL_law_530 (lv_at hl 5 rfl) ?_
    refine lv_iconst (v := 1) hx hb dL_law_532 (by decide) ?_
    refine lv_iadd hx hb dL_law_533 ?_
    refine va_sld hx hb hX hbl hbA hN.2.2 hi1 dL_law_534 ?_
    refine lv_aload_n hx hb dL_law_535 rfl (lv_at hl 1 rfl) ?_
    refine lv_iload hx hb dL_law_536 (lv_at hl 5 rfl) ?_
    refine lv_iconst (v := 2) hx hb dL_law_538 (by decide) ?_
    refine lv_iadd hx hb dL_law_539 ?_
    refine va_sld hx hb hX hbl hbA hN.2.2 hi2 dL_law_540 ?_
    refine lv_aload_n hx hb dL_law_541 rfl (lv_at hl 1 rfl) ?_
    refine lv_iload hx hb dL_law_542 (lv_at hl 5 rfl) ?_
    refine lv_iconst (v := 3) hx hb dL_law_544 (by decide) ?_
    refine lv_iadd hx hb dL_law_545 ?_
    refine va_sld hx hb hX hbl hbA hN.2.2 hi3 dL_law_546 ?_
    refine lv_i2l hx hb dL_law_547 rfl ?_
    refine lv_bipush (v := 32) hx hb dL_law_548 (by decide) ?_
    refine lv_lshl hx hb dL_law_550 rfl ?_
    refine lv_aload_n hx hb dL_law_551 rfl (lv_at hl 1 rfl) ?_
    refine lv_iload hx hb dL_law_552 (lv_at hl 5 rfl) ?_
    refine lv_iconst (v := 4) hx hb dL_law_554 (by decide) ?_
    refine lv_iadd hx hb dL_law_555 ?_
    refine va_sld hx hb hX hbl hbA hN.2.2 hi4 dL_law_556 ?_
    refine lv_i2l hx hb dL_law_557 rfl ?_
    refine lv_ldc2 (v := 4294967295) hx hb C.1.2.2.2.1 (C.1.2.2.2.2 _ lw_ldc) dL_law_558 ?_
    refine lv_land hx hb dL_law_561 ?_
    refine lv_lor hx hb dL_law_562 ?_
    refine rr_callV (As := [.int (xs (nI (5 * t) + 1).toNatClampNeg), .int (xs (nI (5 * t) + 2).toNatClampNeg), .long ((xs (nI (5 * t) + 3).toNatClampNeg).toInt64 <<< ((32 : Int32).toInt64 &&& 63) ||| (xs (nI (5 * t) + 4).toNatClampNeg).toInt64 &&& 4294967295)]) C hN 0 (by omega) rfl rfl rfl M5 lc_X5_bank rfl rfl rfl 3 (by decide +kernel) ⟨Nat.le_of_ble_eq_true rfl, Nat.le_of_ble_eq_true rfl⟩ rfl hl.1 rfl (Nat.le_of_ble_eq_true rfl) ⟨by omega, by omega⟩ dL_law_563 (fun H locs hN => ?_)
    refine lv_istore (lv' := [(6, .int r), (5, .int 0), (0, .ref b), (1, .ref (B 29)), (2, .ref (B 0)), (3, .ref ao), (4, .int (nI (5 * t)))]) hx hb dL_law_566 hl (by decide) rfl (fun ls hl => ?_)
    refine lv_aload_n hx hb dL_law_568 rfl (lv_at hl 4 rfl) ?_
    refine rr_callV (As := []) C hN 0 (by omega) rfl rfl rfl (ct_X5_thrown l (by omega)) lc_X5_thrown rfl rfl rfl 0 (by decide +kernel) ⟨Nat.le_of_ble_eq_true rfl, Nat.le_of_ble_eq_true rfl⟩ rfl hl.1 rfl (Nat.le_of_ble_eq_true rfl) ⟨by omega, by omega⟩ dL_law_569 (fun H locs hN => ?_)
    refine lv_iload hx hb dL_law_572 (lv_at hl 1 rfl) ?_
    refine lv_icmp_eq (tgt := 579) hx hb dL_law_574 (by decide) (fun _ => ?_) (fun c9 => absurd h0 c9)
    refine lv_iload hx hb dL_law_579 (lv_at hl 1 rfl) ?_
    refine lv_if_ne (tgt := 596) hx hb dL_law_581 (by decide) (fun c9 => absurd c9 (fun w => w rfl)) (fun _ => ?_)
    refine lv_aload_n hx hb dL_law_584 rfl (lv_at hl 5 rfl) ?_
    refine lv_iconst (v := 0) hx hb dL_law_585 (by decide) ?_
    refine va_lald hx hb hKG hN.1 (36 + 8 * n) 5 ld_at rfl (by unfold vp_in; decide) dL_law_586 ?_
    refine lv_iload hx hb dL_law_587 (lv_at hl 0 rfl) ?_
    refine lv_i2l hx hb dL_law_589 rfl ?_
    refine W.lcmp hx hb dL_law_590 ?_
    refine lv_if_eq (tgt := 596) hx hb dL_law_591 (by decide) (fun _ => ?_) (fun c9 => absurd ((lg_cmp_eq _ _).mpr rfl) c9)
    refine lv_goto (tgt := 703) hx hb dL_law_596 (by decide) ?_
    refine W.widen (k := 40 + 10 * (t + 1)) (n := 22000 + 1200 * (t + 1)) (by omega) (by omega) ?_
    exact K n B u2 _ ls H locs ⟨⟨P', hR2⟩, hN, lv_sub hl [2, 3, 4, 5, 6] rfl, rfl, rfl⟩
end LZ
