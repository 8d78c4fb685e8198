set_option maxRecDepth 20000 in
theorem kw_X0_init_X0 : ww_K wsX0_init RX0 TX0 3 tyX0 := ⟨by decide +kernel, tyX0_ok, nmX0⟩
set_option maxHeartbeats 4000000 in
set_option maxRecDepth 100000 in
theorem wc_X0_init (l : Launch) {D : va_G} {ca : Nat → ClassId} (pre : va_W) (h0 : Nat) : wl_M l yX0_init wsX0_init ({ frames := 1, cells := 1, slots := 256, locals := 20 } : Room) D ca pre h0 (.inr (0, [.null, .int 0, .int 0])) [] (fun qs => [(h0, .inr (0, [.ref (qs.getD 0 0), .int 0, .int 0])), ((qs.getD 0 0), .inl (ca 1, 256, .inl (fun _ => 0)))]) 1 256 := by
  refine wl_met (cc := cX0_init) (maxL := 1) (by decide) rfl rfl (Nat.le_of_ble_eq_true rfl) ?_
  intro p e s m args below meth c A hA C hN ls hl
  have hl : lv_has ls 1 [(0, .ref h0)] := hl
  have hx := C.1.1.1
  have hb := C.1.1.2.1
  refine lv_aload_n hx hb dX0_init_0 rfl (lv_at hl 0 rfl) ?_
  refine W.objInit hx hb C.1.1.2.2.2.1 (C.1.1.2.2.2.2 _ (List.mem_of_getElem? (i := 1) rfl)) (C.1.1.2.2.2.2 _ (List.mem_of_getElem? (i := 2) rfl)) (C.1.1.2.2.2.2 _ (List.mem_of_getElem? (i := 3) rfl)) rfl (by rw [C.1.1.2.2.1]; exact hl.1) rfl dX0_init_1 (Nat.le_of_ble_eq_true rfl) (Nat.le_of_ble_eq_true rfl) ?_
  refine W.eq (g2 := F0 m 4 ls []) rfl ?_
  refine lv_aload_n hx hb dX0_init_4 rfl (lv_at hl 0 rfl) ?_
  refine lv_sipush (v := 256) hx hb dX0_init_5 (by decide) ?_
  refine ll_newa C.1 hN (ty := .byte) 1 rfl (List.mem_of_getElem? (i := 4) rfl) rfl (fun _ _ h => h) rfl (by decide) (N' := 256) (by decide) (by decide) (Nat.le_of_ble_eq_true rfl) (Nat.le_of_ble_eq_true rfl) dX0_init_8 (fun q1 H hN => ?_)
  have hN : wl_N D (pre ++ [(h0, .inr (0, [.null, .int 0, .int 0])), (q1, .inl (ca 1, 256, .inl (fun _ => 0)))]) A s.heap H [] := hN
  refine ll_putF C hN 0 rfl rfl kw_X0_init_X0 0 (by decide) (List.mem_of_getElem? (i := 5) rfl) rfl rfl (v := .ref q1) rfl rfl (Nat.le_of_ble_eq_true rfl) dX0_init_10 (fun H locs hN => ?_)
  have hN : wl_N D (pre ++ [(h0, .inr (0, [.ref q1, .int 0, .int 0])), (q1, .inl (ca 1, 256, .inl (fun _ => 0)))]) A s.heap H locs := hN
  refine W.widen (k := 1) (n := 256) (by decide) (by decide) ?_
  exact ll_vret C hA hN [q1] rfl dX0_init_13
