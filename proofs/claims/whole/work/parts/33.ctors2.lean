set_option maxRecDepth 20000 in
theorem kw_X3_init_X3 : ww_K wsX3_init RX3 TX3 8 tyX3 := ⟨by decide +kernel, tyX3_ok, nmX3⟩
set_option maxHeartbeats 4000000 in
set_option maxRecDepth 100000 in
theorem wc_X3_init (l : Launch) {D : va_G} {ca : Nat → ClassId} (pre : va_W) (h0 : Nat) : wl_M l yX3_init wsX3_init ({ frames := 1, cells := 1, slots := 256, locals := 20 } : Room) D ca pre h0 (.inr (3, [.null, .int 0, .int 0, .int 0, .int 0, .int 0, .int 0, .int 0])) [] (fun qs => [(h0, .inr (3, [.ref (qs.getD 0 0), .int 0, .int 0, .int 0, .int 0, .int 0, .int 0, .int 0])), ((qs.getD 0 0), .inl (ca 1, 256, .inl (fun _ => 0)))]) 1 256 := by
  refine wl_met (cc := cX3_init) (maxL := 1) (by decide) rfl rfl (Nat.le_of_ble_eq_true rfl) ?_
  intro p e s m args below meth c A hA C hN ls hl
  have hl : lv_has ls 1 [(0, .ref h0)] := hl
  have hx := C.1.1.1
  have hb := C.1.1.2.1
  refine lv_aload_n hx hb dX3_init_0 rfl (lv_at hl 0 rfl) ?_
  refine W.objInit hx hb C.1.1.2.2.2.1 (C.1.1.2.2.2.2 _ (List.mem_of_getElem? (i := 1) rfl)) (C.1.1.2.2.2.2 _ (List.mem_of_getElem? (i := 2) rfl)) (C.1.1.2.2.2.2 _ (List.mem_of_getElem? (i := 3) rfl)) rfl (by rw [C.1.1.2.2.1]; exact hl.1) rfl dX3_init_1 (Nat.le_of_ble_eq_true rfl) (Nat.le_of_ble_eq_true rfl) ?_
  refine W.eq (g2 := F0 m 4 ls []) rfl ?_
  refine lv_aload_n hx hb dX3_init_4 rfl (lv_at hl 0 rfl) ?_
  refine lv_sipush (v := 256) hx hb dX3_init_5 (by decide) ?_
  refine ll_newa C.1 hN (ty := .byte) 1 rfl (List.mem_of_getElem? (i := 4) rfl) rfl (fun _ _ h => h) rfl (by decide) (N' := 256) (by decide) (by decide) (Nat.le_of_ble_eq_true rfl) (Nat.le_of_ble_eq_true rfl) dX3_init_8 (fun q1 H hN => ?_)
  have hN : wl_N D (pre ++ [(h0, .inr (3, [.null, .int 0, .int 0, .int 0, .int 0, .int 0, .int 0, .int 0])), (q1, .inl (ca 1, 256, .inl (fun _ => 0)))]) A s.heap H [] := hN
  refine ll_putF C hN 0 rfl rfl kw_X3_init_X3 0 (by decide) (List.mem_of_getElem? (i := 5) rfl) rfl rfl (v := .ref q1) rfl rfl (Nat.le_of_ble_eq_true rfl) dX3_init_10 (fun H locs hN => ?_)
  have hN : wl_N D (pre ++ [(h0, .inr (3, [.ref q1, .int 0, .int 0, .int 0, .int 0, .int 0, .int 0, .int 0])), (q1, .inl (ca 1, 256, .inl (fun _ => 0)))]) A s.heap H locs := hN
  refine W.widen (k := 1) (n := 256) (by decide) (by decide) ?_
  exact ll_vret C hA hN [q1] rfl dX3_init_13
set_option maxRecDepth 20000 in
theorem kw_X2_init_X2 : ww_K wsX2_init RX2 TX2 3 tyX2 := ⟨by decide +kernel, tyX2_ok, nmX2⟩
set_option maxHeartbeats 4000000 in
set_option maxRecDepth 100000 in
theorem wc_X2_init (l : Launch) {D : va_G} {ca : Nat → ClassId} (pre : va_W) (h0 : Nat) : wl_M l yX2_init wsX2_init ({ frames := 1, cells := 3, slots := 392, locals := 20 } : Room) D ca pre h0 (.inr (2, [.null, .null, .null])) [] (fun qs => [(h0, .inr (2, [.ref (qs.getD 0 0), .ref (qs.getD 1 0), .ref (qs.getD 2 0)])), ((qs.getD 0 0), .inl (ca 1, 320, .inl (fun _ => 0))), ((qs.getD 1 0), .inl (ca 0, 64, .inl (fun _ => 0))), ((qs.getD 2 0), .inl (ca 0, 8, .inl (fun _ => 0)))]) 3 392 := by
  refine wl_met (cc := cX2_init) (maxL := 1) (by decide) rfl rfl (Nat.le_of_ble_eq_true rfl) ?_
  intro p e s m args below meth c A hA C hN ls hl
  have hl : lv_has ls 1 [(0, .ref h0)] := hl
  have hx := C.1.1.1
  have hb := C.1.1.2.1
  refine lv_aload_n hx hb dX2_init_0 rfl (lv_at hl 0 rfl) ?_
  refine W.objInit hx hb C.1.1.2.2.2.1 (C.1.1.2.2.2.2 _ (List.mem_of_getElem? (i := 1) rfl)) (C.1.1.2.2.2.2 _ (List.mem_of_getElem? (i := 2) rfl)) (C.1.1.2.2.2.2 _ (List.mem_of_getElem? (i := 3) rfl)) rfl (by rw [C.1.1.2.2.1]; exact hl.1) rfl dX2_init_1 (Nat.le_of_ble_eq_true rfl) (Nat.le_of_ble_eq_true rfl) ?_
  refine W.eq (g2 := F0 m 4 ls []) rfl ?_
  refine lv_aload_n hx hb dX2_init_4 rfl (lv_at hl 0 rfl) ?_
  refine lv_sipush (v := 320) hx hb dX2_init_5 (by decide) ?_
  refine ll_newa C.1 hN (ty := .byte) 1 rfl (List.mem_of_getElem? (i := 4) rfl) rfl (fun _ _ h => h) rfl (by decide) (N' := 320) (by decide) (by decide) (Nat.le_of_ble_eq_true rfl) (Nat.le_of_ble_eq_true rfl) dX2_init_8 (fun q1 H hN => ?_)
  have hN : wl_N D (pre ++ [(h0, .inr (2, [.null, .null, .null])), (q1, .inl (ca 1, 320, .inl (fun _ => 0)))]) A s.heap H [] := hN
  refine ll_putF C hN 0 rfl rfl kw_X2_init_X2 0 (by decide) (List.mem_of_getElem? (i := 5) rfl) rfl rfl (v := .ref q1) rfl rfl (Nat.le_of_ble_eq_true rfl) dX2_init_10 (fun H locs hN => ?_)
  have hN : wl_N D (pre ++ [(h0, .inr (2, [.ref q1, .null, .null])), (q1, .inl (ca 1, 320, .inl (fun _ => 0)))]) A s.heap H locs := hN
  refine lv_aload_n hx hb dX2_init_13 rfl (lv_at hl 0 rfl) ?_
  refine lv_bipush (v := 64) hx hb dX2_init_14 (by decide) ?_
  refine ll_newa C.1 hN (ty := .int) 0 rfl (List.mem_of_getElem? (i := 6) rfl) rfl (fun _ _ h => h) rfl (by decide) (N' := 64) (by decide) (by decide) (Nat.le_of_ble_eq_true rfl) (Nat.le_of_ble_eq_true rfl) dX2_init_16 (fun q2 H hN => ?_)
  have hN : wl_N D (pre ++ [(h0, .inr (2, [.ref q1, .null, .null])), (q1, .inl (ca 1, 320, .inl (fun _ => 0))), (q2, .inl (ca 0, 64, .inl (fun _ => 0)))]) A s.heap H locs := hN
  refine ll_putF C hN 0 rfl rfl kw_X2_init_X2 1 (by decide) (List.mem_of_getElem? (i := 7) rfl) rfl rfl (v := .ref q2) rfl rfl (Nat.le_of_ble_eq_true rfl) dX2_init_18 (fun H locs hN => ?_)
  have hN : wl_N D (pre ++ [(h0, .inr (2, [.ref q1, .ref q2, .null])), (q1, .inl (ca 1, 320, .inl (fun _ => 0))), (q2, .inl (ca 0, 64, .inl (fun _ => 0)))]) A s.heap H locs := hN
  refine lv_aload_n hx hb dX2_init_21 rfl (lv_at hl 0 rfl) ?_
  refine lv_bipush (v := 8) hx hb dX2_init_22 (by decide) ?_
  refine ll_newa C.1 hN (ty := .int) 0 rfl (List.mem_of_getElem? (i := 6) rfl) rfl (fun _ _ h => h) rfl (by decide) (N' := 8) (by decide) (by decide) (Nat.le_of_ble_eq_true rfl) (Nat.le_of_ble_eq_true rfl) dX2_init_24 (fun q3 H hN => ?_)
  have hN : wl_N D (pre ++ [(h0, .inr (2, [.ref q1, .ref q2, .null])), (q1, .inl (ca 1, 320, .inl (fun _ => 0))), (q2, .inl (ca 0, 64, .inl (fun _ => 0))), (q3, .inl (ca 0, 8, .inl (fun _ => 0)))]) A s.heap H locs := hN
  refine ll_putF C hN 0 rfl rfl kw_X2_init_X2 2 (by decide) (List.mem_of_getElem? (i := 8) rfl) rfl rfl (v := .ref q3) rfl rfl (Nat.le_of_ble_eq_true rfl) dX2_init_26 (fun H locs hN => ?_)
  have hN : wl_N D (pre ++ [(h0, .inr (2, [.ref q1, .ref q2, .ref q3])), (q1, .inl (ca 1, 320, .inl (fun _ => 0))), (q2, .inl (ca 0, 64, .inl (fun _ => 0))), (q3, .inl (ca 0, 8, .inl (fun _ => 0)))]) A s.heap H locs := hN
  refine W.widen (k := 3) (n := 392) (by decide) (by decide) ?_
  exact ll_vret C hA hN [q1, q2, q3] rfl dX2_init_29
set_option maxRecDepth 20000 in
theorem kw_X1_init_X0 : ww_K wsX1_init RX0 TX0 3 tyX0 := ⟨by decide +kernel, tyX0_ok, nmX0⟩
set_option maxRecDepth 20000 in
theorem kw_X1_init_X1 : ww_K wsX1_init RX1 TX1 10 tyX1 := ⟨by decide +kernel, tyX1_ok, nmX1⟩
set_option maxRecDepth 20000 in
theorem kw_X1_init_X3 : ww_K wsX1_init RX3 TX3 8 tyX3 := ⟨by decide +kernel, tyX3_ok, nmX3⟩
set_option maxHeartbeats 4000000 in
set_option maxRecDepth 100000 in
theorem wc_X1_init (l : Launch) {D : va_G} {ca : Nat → ClassId} (pre : va_W) (h0 : Nat) (hw : Int32) : wl_M l yX1_init wsX1_init ({ frames := 2, cells := 7, slots := 784, locals := 40 } : Room) D ca pre h0 (.inr (1, [.int 0, .null, .null, .int 0, .int 0, .int 0, .int 0, .int 0, .int 0, .int 0])) [.int hw] (fun qs => [(h0, .inr (1, [.int hw, .ref (qs.getD 0 0), .ref (qs.getD 5 0), .int 0, .int 0, .int 0, .int 0, .int 0, .int 0, .int 0])), ((qs.getD 0 0), .inl (ca 4, 2, .inr (.inr (.inr (.inr (va_up (va_up (fun _ => none) 0 (some (qs.getD 1 0))) 1 (some (qs.getD 3 0)))))))), ((qs.getD 1 0), .inr (0, [.ref (qs.getD 2 0), .int 0, .int 0])), ((qs.getD 2 0), .inl (ca 1, 256, .inl (fun _ => 0))), ((qs.getD 3 0), .inr (0, [.ref (qs.getD 4 0), .int 0, .int 0])), ((qs.getD 4 0), .inl (ca 1, 256, .inl (fun _ => 0))), ((qs.getD 5 0), .inr (3, [.ref (qs.getD 6 0), .int 0, .int 0, .int 0, .int 0, .int 0, .int 0, .int 0])), ((qs.getD 6 0), .inl (ca 1, 256, .inl (fun _ => 0)))]) 7 784 := by
  refine wl_met (cc := cX1_init) (maxL := 2) (by decide) rfl rfl (Nat.le_of_ble_eq_true rfl) ?_
  intro p e s m args below meth c A hA C hN ls hl
  have hl : lv_has ls 2 [(0, .ref h0), (1, .int hw)] := hl
  have hx := C.1.1.1
  have hb := C.1.1.2.1
  refine lv_aload_n hx hb dX1_init_0 rfl (lv_at hl 0 rfl) ?_
  refine W.objInit hx hb C.1.1.2.2.2.1 (C.1.1.2.2.2.2 _ (List.mem_of_getElem? (i := 1) rfl)) (C.1.1.2.2.2.2 _ (List.mem_of_getElem? (i := 2) rfl)) (C.1.1.2.2.2.2 _ (List.mem_of_getElem? (i := 3) rfl)) rfl (by rw [C.1.1.2.2.1]; exact hl.1) rfl dX1_init_1 (Nat.le_of_ble_eq_true rfl) (Nat.le_of_ble_eq_true rfl) ?_
  refine W.eq (g2 := F0 m 4 ls []) rfl ?_
  refine lv_aload_n hx hb dX1_init_4 rfl (lv_at hl 0 rfl) ?_
  refine lv_iload_n hx hb dX1_init_5 rfl (lv_at hl 1 rfl) ?_
  refine ll_putF C hN 0 rfl rfl kw_X1_init_X1 0 (by decide) (List.mem_of_getElem? (i := 4) rfl) rfl rfl (v := .int hw) rfl rfl (Nat.le_of_ble_eq_true rfl) dX1_init_6 (fun H locs hN => ?_)
  have hN : wl_N D (pre ++ [(h0, .inr (1, [.int hw, .null, .null, .int 0, .int 0, .int 0, .int 0, .int 0, .int 0, .int 0]))]) A s.heap H locs := hN
  refine lv_aload_n hx hb dX1_init_9 rfl (lv_at hl 0 rfl) ?_
  refine lv_iconst (v := 2) hx hb dX1_init_10 (by decide) ?_
  refine ll_newq C.1 hN (Cn := RX0) 4 (List.mem_of_getElem? (i := 5) rfl) C.2.2.1 rfl (by decide) (N' := 2) (by decide) (by decide) (Nat.le_of_ble_eq_true rfl) (Nat.le_of_ble_eq_true rfl) dX1_init_11 (fun q1 H hN => ?_)
  have hN : wl_N D (pre ++ [(h0, .inr (1, [.int hw, .null, .null, .int 0, .int 0, .int 0, .int 0, .int 0, .int 0, .int 0])), (q1, .inl (ca 4, 2, .inr (.inr (.inr (.inr (fun _ => none))))))]) A s.heap H locs := hN
  refine ll_putF C hN 0 rfl rfl kw_X1_init_X1 1 (by decide) (List.mem_of_getElem? (i := 6) rfl) rfl rfl (v := .ref q1) rfl rfl (Nat.le_of_ble_eq_true rfl) dX1_init_14 (fun H locs hN => ?_)
  have hN : wl_N D (pre ++ [(h0, .inr (1, [.int hw, .ref q1, .null, .int 0, .int 0, .int 0, .int 0, .int 0, .int 0, .int 0])), (q1, .inl (ca 4, 2, .inr (.inr (.inr (.inr (fun _ => none))))))]) A s.heap H locs := hN
  refine lv_aload_n hx hb dX1_init_17 rfl (lv_at hl 0 rfl) ?_
  refine ll_get C.1 hN 0 rfl rfl kw_X1_init_X1 1 (by decide) (List.mem_of_getElem? (i := 6) rfl) (v := .ref q1) rfl dX1_init_18 ?_
  refine lv_iconst (v := 0) hx hb dX1_init_21 (by decide) ?_
  refine ll_new C.1 hN (ci := 0) (fs := [.null, .int 0, .int 0]) kw_X1_init_X0 rfl (List.mem_of_getElem? (i := 5) rfl) (List.mem_of_getElem? (i := 7) rfl) (List.mem_of_getElem? (i := 8) rfl) (fun j hj => by rcases (show j = 0 ∨ j = 1 ∨ j = 2 by omega) with rfl | rfl | rfl <;> rfl) (Nat.le_of_ble_eq_true rfl) (Nat.le_of_ble_eq_true rfl) dX1_init_22 (fun q2 H hN => ?_)
  have hN : wl_N D (pre ++ [(h0, .inr (1, [.int hw, .ref q1, .null, .int 0, .int 0, .int 0, .int 0, .int 0, .int 0, .int 0])), (q1, .inl (ca 4, 2, .inr (.inr (.inr (.inr (fun _ => none)))))), (q2, .inr (0, [.null, .int 0, .int 0]))]) A s.heap H locs := hN
  refine lv_dup hx hb dX1_init_25 rfl ?_
  have hN : wl_N D ((pre ++ [(h0, .inr (1, [.int hw, .ref q1, .null, .int 0, .int 0, .int 0, .int 0, .int 0, .int 0, .int 0])), (q1, .inl (ca 4, 2, .inr (.inr (.inr (.inr (fun _ => none))))))]) ++ [(q2, .inr (0, [.null, .int 0, .int 0]))]) A s.heap H locs := by rw [List.append_assoc]; exact hN
  refine ll_call (av := []) C.1 C.2.2.1 C.2.2.2 hN (wc_X0_init l (ca := ca) (pre ++ [(h0, .inr (1, [.int hw, .ref q1, .null, .int 0, .int 0, .int 0, .int 0, .int 0, .int 0, .int 0])), (q1, .inl (ca 4, 2, .inr (.inr (.inr (.inr (fun _ => none))))))]) q2) gX1_init_X0_init rfl rfl rfl (List.mem_of_getElem? (i := 8) rfl) (List.mem_of_getElem? (i := 13) rfl) (List.mem_of_getElem? (i := 14) rfl) rfl 0 (by decide +kernel) ⟨Nat.le_of_ble_eq_true rfl, Nat.le_of_ble_eq_true rfl⟩ rfl hl.1 rfl (Nat.le_of_ble_eq_true rfl) ⟨Nat.le_of_ble_eq_true rfl, Nat.le_of_ble_eq_true rfl⟩ dX1_init_26 (fun qs3 H locs hN => ?_)
  rw [List.append_assoc] at hN
  have hN : wl_N D (pre ++ [(h0, .inr (1, [.int hw, .ref q1, .null, .int 0, .int 0, .int 0, .int 0, .int 0, .int 0, .int 0])), (q1, .inl (ca 4, 2, .inr (.inr (.inr (.inr (fun _ => none)))))), (q2, .inr (0, [.ref (qs3.getD 0 0), .int 0, .int 0])), ((qs3.getD 0 0), .inl (ca 1, 256, .inl (fun _ => 0)))]) A s.heap H locs := hN
  refine ll_ast C.1 hN 1 4 2 (ci := 0) rfl rfl rfl rfl 0 (by decide) rfl (by decide) dX1_init_29 (fun H locs hN => ?_)
  have hN : wl_N D (pre ++ [(h0, .inr (1, [.int hw, .ref q1, .null, .int 0, .int 0, .int 0, .int 0, .int 0, .int 0, .int 0])), (q1, .inl (ca 4, 2, .inr (.inr (.inr (.inr (va_up (fun _ => none) 0 (some q2))))))), (q2, .inr (0, [.ref (qs3.getD 0 0), .int 0, .int 0])), ((qs3.getD 0 0), .inl (ca 1, 256, .inl (fun _ => 0)))]) A s.heap H locs := hN
  refine lv_aload_n hx hb dX1_init_30 rfl (lv_at hl 0 rfl) ?_
  refine ll_get C.1 hN 0 rfl rfl kw_X1_init_X1 1 (by decide) (List.mem_of_getElem? (i := 6) rfl) (v := .ref q1) rfl dX1_init_31 ?_
  refine lv_iconst (v := 1) hx hb dX1_init_34 (by decide) ?_
  refine ll_new C.1 hN (ci := 0) (fs := [.null, .int 0, .int 0]) kw_X1_init_X0 rfl (List.mem_of_getElem? (i := 5) rfl) (List.mem_of_getElem? (i := 7) rfl) (List.mem_of_getElem? (i := 8) rfl) (fun j hj => by rcases (show j = 0 ∨ j = 1 ∨ j = 2 by omega) with rfl | rfl | rfl <;> rfl) (Nat.le_of_ble_eq_true rfl) (Nat.le_of_ble_eq_true rfl) dX1_init_35 (fun q4 H hN => ?_)
  have hN : wl_N D (pre ++ [(h0, .inr (1, [.int hw, .ref q1, .null, .int 0, .int 0, .int 0, .int 0, .int 0, .int 0, .int 0])), (q1, .inl (ca 4, 2, .inr (.inr (.inr (.inr (va_up (fun _ => none) 0 (some q2))))))), (q2, .inr (0, [.ref (qs3.getD 0 0), .int 0, .int 0])), ((qs3.getD 0 0), .inl (ca 1, 256, .inl (fun _ => 0))), (q4, .inr (0, [.null, .int 0, .int 0]))]) A s.heap H locs := hN
  refine lv_dup hx hb dX1_init_38 rfl ?_
  have hN : wl_N D ((pre ++ [(h0, .inr (1, [.int hw, .ref q1, .null, .int 0, .int 0, .int 0, .int 0, .int 0, .int 0, .int 0])), (q1, .inl (ca 4, 2, .inr (.inr (.inr (.inr (va_up (fun _ => none) 0 (some q2))))))), (q2, .inr (0, [.ref (qs3.getD 0 0), .int 0, .int 0])), ((qs3.getD 0 0), .inl (ca 1, 256, .inl (fun _ => 0)))]) ++ [(q4, .inr (0, [.null, .int 0, .int 0]))]) A s.heap H locs := by rw [List.append_assoc]; exact hN
  refine ll_call (av := []) C.1 C.2.2.1 C.2.2.2 hN (wc_X0_init l (ca := ca) (pre ++ [(h0, .inr (1, [.int hw, .ref q1, .null, .int 0, .int 0, .int 0, .int 0, .int 0, .int 0, .int 0])), (q1, .inl (ca 4, 2, .inr (.inr (.inr (.inr (va_up (fun _ => none) 0 (some q2))))))), (q2, .inr (0, [.ref (qs3.getD 0 0), .int 0, .int 0])), ((qs3.getD 0 0), .inl (ca 1, 256, .inl (fun _ => 0)))]) q4) gX1_init_X0_init rfl rfl rfl (List.mem_of_getElem? (i := 8) rfl) (List.mem_of_getElem? (i := 13) rfl) (List.mem_of_getElem? (i := 14) rfl) rfl 0 (by decide +kernel) ⟨Nat.le_of_ble_eq_true rfl, Nat.le_of_ble_eq_true rfl⟩ rfl hl.1 rfl (Nat.le_of_ble_eq_true rfl) ⟨Nat.le_of_ble_eq_true rfl, Nat.le_of_ble_eq_true rfl⟩ dX1_init_39 (fun qs5 H locs hN => ?_)
  rw [List.append_assoc] at hN
  have hN : wl_N D (pre ++ [(h0, .inr (1, [.int hw, .ref q1, .null, .int 0, .int 0, .int 0, .int 0, .int 0, .int 0, .int 0])), (q1, .inl (ca 4, 2, .inr (.inr (.inr (.inr (va_up (fun _ => none) 0 (some q2))))))), (q2, .inr (0, [.ref (qs3.getD 0 0), .int 0, .int 0])), ((qs3.getD 0 0), .inl (ca 1, 256, .inl (fun _ => 0))), (q4, .inr (0, [.ref (qs5.getD 0 0), .int 0, .int 0])), ((qs5.getD 0 0), .inl (ca 1, 256, .inl (fun _ => 0)))]) A s.heap H locs := hN
  refine ll_ast C.1 hN 1 4 4 (ci := 0) rfl rfl rfl rfl 1 (by decide) rfl (by decide) dX1_init_42 (fun H locs hN => ?_)
  have hN : wl_N D (pre ++ [(h0, .inr (1, [.int hw, .ref q1, .null, .int 0, .int 0, .int 0, .int 0, .int 0, .int 0, .int 0])), (q1, .inl (ca 4, 2, .inr (.inr (.inr (.inr (va_up (va_up (fun _ => none) 0 (some q2)) 1 (some q4))))))), (q2, .inr (0, [.ref (qs3.getD 0 0), .int 0, .int 0])), ((qs3.getD 0 0), .inl (ca 1, 256, .inl (fun _ => 0))), (q4, .inr (0, [.ref (qs5.getD 0 0), .int 0, .int 0])), ((qs5.getD 0 0), .inl (ca 1, 256, .inl (fun _ => 0)))]) A s.heap H locs := hN
  refine lv_aload_n hx hb dX1_init_43 rfl (lv_at hl 0 rfl) ?_
  refine ll_new C.1 hN (ci := 3) (fs := [.null, .int 0, .int 0, .int 0, .int 0, .int 0, .int 0, .int 0]) kw_X1_init_X3 rfl (List.mem_of_getElem? (i := 9) rfl) (List.mem_of_getElem? (i := 10) rfl) (List.mem_of_getElem? (i := 11) rfl) (fun j hj => by rcases (show j = 0 ∨ j = 1 ∨ j = 2 ∨ j = 3 ∨ j = 4 ∨ j = 5 ∨ j = 6 ∨ j = 7 by omega) with rfl | rfl | rfl | rfl | rfl | rfl | rfl | rfl <;> rfl) (Nat.le_of_ble_eq_true rfl) (Nat.le_of_ble_eq_true rfl) dX1_init_44 (fun q6 H hN => ?_)
  have hN : wl_N D (pre ++ [(h0, .inr (1, [.int hw, .ref q1, .null, .int 0, .int 0, .int 0, .int 0, .int 0, .int 0, .int 0])), (q1, .inl (ca 4, 2, .inr (.inr (.inr (.inr (va_up (va_up (fun _ => none) 0 (some q2)) 1 (some q4))))))), (q2, .inr (0, [.ref (qs3.getD 0 0), .int 0, .int 0])), ((qs3.getD 0 0), .inl (ca 1, 256, .inl (fun _ => 0))), (q4, .inr (0, [.ref (qs5.getD 0 0), .int 0, .int 0])), ((qs5.getD 0 0), .inl (ca 1, 256, .inl (fun _ => 0))), (q6, .inr (3, [.null, .int 0, .int 0, .int 0, .int 0, .int 0, .int 0, .int 0]))]) A s.heap H locs := hN
  refine lv_dup hx hb dX1_init_47 rfl ?_
  have hN : wl_N D ((pre ++ [(h0, .inr (1, [.int hw, .ref q1, .null, .int 0, .int 0, .int 0, .int 0, .int 0, .int 0, .int 0])), (q1, .inl (ca 4, 2, .inr (.inr (.inr (.inr (va_up (va_up (fun _ => none) 0 (some q2)) 1 (some q4))))))), (q2, .inr (0, [.ref (qs3.getD 0 0), .int 0, .int 0])), ((qs3.getD 0 0), .inl (ca 1, 256, .inl (fun _ => 0))), (q4, .inr (0, [.ref (qs5.getD 0 0), .int 0, .int 0])), ((qs5.getD 0 0), .inl (ca 1, 256, .inl (fun _ => 0)))]) ++ [(q6, .inr (3, [.null, .int 0, .int 0, .int 0, .int 0, .int 0, .int 0, .int 0]))]) A s.heap H locs := by rw [List.append_assoc]; exact hN
  refine ll_call (av := []) C.1 C.2.2.1 C.2.2.2 hN (wc_X3_init l (ca := ca) (pre ++ [(h0, .inr (1, [.int hw, .ref q1, .null, .int 0, .int 0, .int 0, .int 0, .int 0, .int 0, .int 0])), (q1, .inl (ca 4, 2, .inr (.inr (.inr (.inr (va_up (va_up (fun _ => none) 0 (some q2)) 1 (some q4))))))), (q2, .inr (0, [.ref (qs3.getD 0 0), .int 0, .int 0])), ((qs3.getD 0 0), .inl (ca 1, 256, .inl (fun _ => 0))), (q4, .inr (0, [.ref (qs5.getD 0 0), .int 0, .int 0])), ((qs5.getD 0 0), .inl (ca 1, 256, .inl (fun _ => 0)))]) q6) gX1_init_X3_init rfl rfl rfl (List.mem_of_getElem? (i := 11) rfl) (List.mem_of_getElem? (i := 19) rfl) (List.mem_of_getElem? (i := 20) rfl) rfl 0 (by decide +kernel) ⟨Nat.le_of_ble_eq_true rfl, Nat.le_of_ble_eq_true rfl⟩ rfl hl.1 rfl (Nat.le_of_ble_eq_true rfl) ⟨Nat.le_of_ble_eq_true rfl, Nat.le_of_ble_eq_true rfl⟩ dX1_init_48 (fun qs7 H locs hN => ?_)
  rw [List.append_assoc] at hN
  have hN : wl_N D (pre ++ [(h0, .inr (1, [.int hw, .ref q1, .null, .int 0, .int 0, .int 0, .int 0, .int 0, .int 0, .int 0])), (q1, .inl (ca 4, 2, .inr (.inr (.inr (.inr (va_up (va_up (fun _ => none) 0 (some q2)) 1 (some q4))))))), (q2, .inr (0, [.ref (qs3.getD 0 0), .int 0, .int 0])), ((qs3.getD 0 0), .inl (ca 1, 256, .inl (fun _ => 0))), (q4, .inr (0, [.ref (qs5.getD 0 0), .int 0, .int 0])), ((qs5.getD 0 0), .inl (ca 1, 256, .inl (fun _ => 0))), (q6, .inr (3, [.ref (qs7.getD 0 0), .int 0, .int 0, .int 0, .int 0, .int 0, .int 0, .int 0])), ((qs7.getD 0 0), .inl (ca 1, 256, .inl (fun _ => 0)))]) A s.heap H locs := hN
  refine ll_putF C hN 0 rfl rfl kw_X1_init_X1 2 (by decide) (List.mem_of_getElem? (i := 12) rfl) rfl rfl (v := .ref q6) rfl rfl (Nat.le_of_ble_eq_true rfl) dX1_init_51 (fun H locs hN => ?_)
  have hN : wl_N D (pre ++ [(h0, .inr (1, [.int hw, .ref q1, .ref q6, .int 0, .int 0, .int 0, .int 0, .int 0, .int 0, .int 0])), (q1, .inl (ca 4, 2, .inr (.inr (.inr (.inr (va_up (va_up (fun _ => none) 0 (some q2)) 1 (some q4))))))), (q2, .inr (0, [.ref (qs3.getD 0 0), .int 0, .int 0])), ((qs3.getD 0 0), .inl (ca 1, 256, .inl (fun _ => 0))), (q4, .inr (0, [.ref (qs5.getD 0 0), .int 0, .int 0])), ((qs5.getD 0 0), .inl (ca 1, 256, .inl (fun _ => 0))), (q6, .inr (3, [.ref (qs7.getD 0 0), .int 0, .int 0, .int 0, .int 0, .int 0, .int 0, .int 0])), ((qs7.getD 0 0), .inl (ca 1, 256, .inl (fun _ => 0)))]) A s.heap H locs := hN
  refine W.widen (k := 7) (n := 784) (by decide) (by decide) ?_
  exact ll_vret C hA hN [q1, q2, (qs3.getD 0 0), q4, (qs5.getD 0 0), q6, (qs7.getD 0 0)] rfl dX1_init_54
set_option maxRecDepth 20000 in
theorem kw_X4_init_X2 : ww_K wsX4_init RX2 TX2 3 tyX2 := ⟨by decide +kernel, tyX2_ok, nmX2⟩
set_option maxRecDepth 20000 in
theorem kw_X4_init_X4 : ww_K wsX4_init RX4 TX4 8 tyX4 := ⟨by decide +kernel, tyX4_ok, nmX4⟩
set_option maxHeartbeats 4000000 in
set_option maxRecDepth 100000 in
theorem wc_X4_init (l : Launch) {D : va_G} {ca : Nat → ClassId} (pre : va_W) (h0 : Nat) : wl_M l yX4_init wsX4_init ({ frames := 2, cells := 6, slots := 659, locals := 40 } : Room) D ca pre h0 (.inr (4, [.null, .int 0, .int 0, .null, .int 0, .int 0, .int 0, .null])) [] (fun qs => [(h0, .inr (4, [.ref (qs.getD 0 0), .int 0, .int 0, .ref (qs.getD 1 0), .int 0, .int 1, .int 1, .ref (qs.getD 2 0)])), ((qs.getD 0 0), .inl (ca 3, 8, .inr (.inr (.inr (.inr (fun _ => none)))))), ((qs.getD 1 0), .inl (ca 1, 256, .inl (fun _ => 0))), ((qs.getD 2 0), .inr (2, [.ref (qs.getD 3 0), .ref (qs.getD 4 0), .ref (qs.getD 5 0)])), ((qs.getD 3 0), .inl (ca 1, 320, .inl (fun _ => 0))), ((qs.getD 4 0), .inl (ca 0, 64, .inl (fun _ => 0))), ((qs.getD 5 0), .inl (ca 0, 8, .inl (fun _ => 0)))]) 6 659 := by
  refine wl_met (cc := cX4_init) (maxL := 1) (by decide) rfl rfl (Nat.le_of_ble_eq_true rfl) ?_
  intro p e s m args below meth c A hA C hN ls hl
  have hl : lv_has ls 1 [(0, .ref h0)] := hl
  have hx := C.1.1.1
  have hb := C.1.1.2.1
  refine lv_aload_n hx hb dX4_init_0 rfl (lv_at hl 0 rfl) ?_
  refine W.objInit hx hb C.1.1.2.2.2.1 (C.1.1.2.2.2.2 _ (List.mem_of_getElem? (i := 1) rfl)) (C.1.1.2.2.2.2 _ (List.mem_of_getElem? (i := 2) rfl)) (C.1.1.2.2.2.2 _ (List.mem_of_getElem? (i := 3) rfl)) rfl (by rw [C.1.1.2.2.1]; exact hl.1) rfl dX4_init_1 (Nat.le_of_ble_eq_true rfl) (Nat.le_of_ble_eq_true rfl) ?_
  refine W.eq (g2 := F0 m 4 ls []) rfl ?_
  refine lv_aload_n hx hb dX4_init_4 rfl (lv_at hl 0 rfl) ?_
  refine lv_bipush (v := 8) hx hb dX4_init_5 (by decide) ?_
  refine ll_newq C.1 hN (Cn := RX1) 3 (List.mem_of_getElem? (i := 4) rfl) C.2.2.2 rfl (by decide) (N' := 8) (by decide) (by decide) (Nat.le_of_ble_eq_true rfl) (Nat.le_of_ble_eq_true rfl) dX4_init_7 (fun q1 H hN => ?_)
  have hN : wl_N D (pre ++ [(h0, .inr (4, [.null, .int 0, .int 0, .null, .int 0, .int 0, .int 0, .null])), (q1, .inl (ca 3, 8, .inr (.inr (.inr (.inr (fun _ => none))))))]) A s.heap H [] := hN
  refine ll_putF C hN 0 rfl rfl kw_X4_init_X4 0 (by decide) (List.mem_of_getElem? (i := 5) rfl) rfl rfl (v := .ref q1) rfl rfl (Nat.le_of_ble_eq_true rfl) dX4_init_10 (fun H locs hN => ?_)
  have hN : wl_N D (pre ++ [(h0, .inr (4, [.ref q1, .int 0, .int 0, .null, .int 0, .int 0, .int 0, .null])), (q1, .inl (ca 3, 8, .inr (.inr (.inr (.inr (fun _ => none))))))]) A s.heap H locs := hN
  refine lv_aload_n hx hb dX4_init_13 rfl (lv_at hl 0 rfl) ?_
  refine lv_sipush (v := 256) hx hb dX4_init_14 (by decide) ?_
  refine ll_newa C.1 hN (ty := .byte) 1 rfl (List.mem_of_getElem? (i := 6) rfl) rfl (fun _ _ h => h) rfl (by decide) (N' := 256) (by decide) (by decide) (Nat.le_of_ble_eq_true rfl) (Nat.le_of_ble_eq_true rfl) dX4_init_17 (fun q2 H hN => ?_)
  have hN : wl_N D (pre ++ [(h0, .inr (4, [.ref q1, .int 0, .int 0, .null, .int 0, .int 0, .int 0, .null])), (q1, .inl (ca 3, 8, .inr (.inr (.inr (.inr (fun _ => none)))))), (q2, .inl (ca 1, 256, .inl (fun _ => 0)))]) A s.heap H locs := hN
  refine ll_putF C hN 0 rfl rfl kw_X4_init_X4 3 (by decide) (List.mem_of_getElem? (i := 7) rfl) rfl rfl (v := .ref q2) rfl rfl (Nat.le_of_ble_eq_true rfl) dX4_init_19 (fun H locs hN => ?_)
  have hN : wl_N D (pre ++ [(h0, .inr (4, [.ref q1, .int 0, .int 0, .ref q2, .int 0, .int 0, .int 0, .null])), (q1, .inl (ca 3, 8, .inr (.inr (.inr (.inr (fun _ => none)))))), (q2, .inl (ca 1, 256, .inl (fun _ => 0)))]) A s.heap H locs := hN
  refine lv_aload_n hx hb dX4_init_22 rfl (lv_at hl 0 rfl) ?_
  refine lv_iconst (v := 1) hx hb dX4_init_23 (by decide) ?_
  refine ll_put C.1 hN 0 rfl rfl kw_X4_init_X4 5 (by decide) (List.mem_of_getElem? (i := 8) rfl) rfl (v := .int 1) rfl rfl (Nat.le_of_ble_eq_true rfl) dX4_init_24 (fun H locs hN => ?_)
  have hN : wl_N D (pre ++ [(h0, .inr (4, [.ref q1, .int 0, .int 0, .ref q2, .int 0, .int 1, .int 0, .null])), (q1, .inl (ca 3, 8, .inr (.inr (.inr (.inr (fun _ => none)))))), (q2, .inl (ca 1, 256, .inl (fun _ => 0)))]) A s.heap H locs := hN
  refine lv_aload_n hx hb dX4_init_27 rfl (lv_at hl 0 rfl) ?_
  refine lv_iconst (v := 1) hx hb dX4_init_28 (by decide) ?_
  refine ll_put C.1 hN 0 rfl rfl kw_X4_init_X4 6 (by decide) (List.mem_of_getElem? (i := 9) rfl) rfl (v := .int 1) rfl rfl (Nat.le_of_ble_eq_true rfl) dX4_init_29 (fun H locs hN => ?_)
  have hN : wl_N D (pre ++ [(h0, .inr (4, [.ref q1, .int 0, .int 0, .ref q2, .int 0, .int 1, .int 1, .null])), (q1, .inl (ca 3, 8, .inr (.inr (.inr (.inr (fun _ => none)))))), (q2, .inl (ca 1, 256, .inl (fun _ => 0)))]) A s.heap H locs := hN
  refine lv_aload_n hx hb dX4_init_32 rfl (lv_at hl 0 rfl) ?_
  refine ll_new C.1 hN (ci := 2) (fs := [.null, .null, .null]) kw_X4_init_X2 rfl (List.mem_of_getElem? (i := 10) rfl) (List.mem_of_getElem? (i := 11) rfl) (List.mem_of_getElem? (i := 12) rfl) (fun j hj => by rcases (show j = 0 ∨ j = 1 ∨ j = 2 by omega) with rfl | rfl | rfl <;> rfl) (Nat.le_of_ble_eq_true rfl) (Nat.le_of_ble_eq_true rfl) dX4_init_33 (fun q3 H hN => ?_)
  have hN : wl_N D (pre ++ [(h0, .inr (4, [.ref q1, .int 0, .int 0, .ref q2, .int 0, .int 1, .int 1, .null])), (q1, .inl (ca 3, 8, .inr (.inr (.inr (.inr (fun _ => none)))))), (q2, .inl (ca 1, 256, .inl (fun _ => 0))), (q3, .inr (2, [.null, .null, .null]))]) A s.heap H locs := hN
  refine lv_dup hx hb dX4_init_36 rfl ?_
  have hN : wl_N D ((pre ++ [(h0, .inr (4, [.ref q1, .int 0, .int 0, .ref q2, .int 0, .int 1, .int 1, .null])), (q1, .inl (ca 3, 8, .inr (.inr (.inr (.inr (fun _ => none)))))), (q2, .inl (ca 1, 256, .inl (fun _ => 0)))]) ++ [(q3, .inr (2, [.null, .null, .null]))]) A s.heap H locs := by rw [List.append_assoc]; exact hN
  refine ll_call (av := []) C.1 C.2.2.1 C.2.2.2 hN (wc_X2_init l (ca := ca) (pre ++ [(h0, .inr (4, [.ref q1, .int 0, .int 0, .ref q2, .int 0, .int 1, .int 1, .null])), (q1, .inl (ca 3, 8, .inr (.inr (.inr (.inr (fun _ => none)))))), (q2, .inl (ca 1, 256, .inl (fun _ => 0)))]) q3) gX4_init_X2_init rfl rfl rfl (List.mem_of_getElem? (i := 12) rfl) (List.mem_of_getElem? (i := 14) rfl) (List.mem_of_getElem? (i := 15) rfl) rfl 0 (by decide +kernel) ⟨Nat.le_of_ble_eq_true rfl, Nat.le_of_ble_eq_true rfl⟩ rfl hl.1 rfl (Nat.le_of_ble_eq_true rfl) ⟨Nat.le_of_ble_eq_true rfl, Nat.le_of_ble_eq_true rfl⟩ dX4_init_37 (fun qs4 H locs hN => ?_)
  rw [List.append_assoc] at hN
  have hN : wl_N D (pre ++ [(h0, .inr (4, [.ref q1, .int 0, .int 0, .ref q2, .int 0, .int 1, .int 1, .null])), (q1, .inl (ca 3, 8, .inr (.inr (.inr (.inr (fun _ => none)))))), (q2, .inl (ca 1, 256, .inl (fun _ => 0))), (q3, .inr (2, [.ref (qs4.getD 0 0), .ref (qs4.getD 1 0), .ref (qs4.getD 2 0)])), ((qs4.getD 0 0), .inl (ca 1, 320, .inl (fun _ => 0))), ((qs4.getD 1 0), .inl (ca 0, 64, .inl (fun _ => 0))), ((qs4.getD 2 0), .inl (ca 0, 8, .inl (fun _ => 0)))]) A s.heap H locs := hN
  refine ll_putF C hN 0 rfl rfl kw_X4_init_X4 7 (by decide) (List.mem_of_getElem? (i := 13) rfl) rfl rfl (v := .ref q3) rfl rfl (Nat.le_of_ble_eq_true rfl) dX4_init_40 (fun H locs hN => ?_)
  have hN : wl_N D (pre ++ [(h0, .inr (4, [.ref q1, .int 0, .int 0, .ref q2, .int 0, .int 1, .int 1, .ref q3])), (q1, .inl (ca 3, 8, .inr (.inr (.inr (.inr (fun _ => none)))))), (q2, .inl (ca 1, 256, .inl (fun _ => 0))), (q3, .inr (2, [.ref (qs4.getD 0 0), .ref (qs4.getD 1 0), .ref (qs4.getD 2 0)])), ((qs4.getD 0 0), .inl (ca 1, 320, .inl (fun _ => 0))), ((qs4.getD 1 0), .inl (ca 0, 64, .inl (fun _ => 0))), ((qs4.getD 2 0), .inl (ca 0, 8, .inl (fun _ => 0)))]) A s.heap H locs := hN
  refine W.widen (k := 6) (n := 659) (by decide) (by decide) ?_
  exact ll_vret C hA hN [q1, q2, q3, (qs4.getD 0 0), (qs4.getD 1 0), (qs4.getD 2 0)] rfl dX4_init_43
