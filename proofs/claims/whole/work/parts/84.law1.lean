section LZ
variable {p : Program} {l : Launch} {e : Env} {s : State} {m : MethodId} {below : List Frame} {meth : Method} {c : Code} {D : va_G} {ca : Nat → ClassId} {cG : ClassId} {b L : Nat} {xs : Nat → Int32} {x0 m0 ao t n : Nat} {B : Nat → Nat} {u : ww_U} {f : Nat → Int64} {ls : Array Slot} {H : Heap} {locs : List Loc}
set_option maxHeartbeats 4000000 in
set_option maxRecDepth 100000 in
theorem lz_0 (F : lf_F D ca cG l p s m b L xs meth c t) (I : lf_I D ca cG s b x0 m0 ao (5 * t) n B u f ls H locs) (K : lf_K D ca cG l p e s m below meth c b x0 m0 ao t) : W p l e room_1 s m #[Value.ref b] below meth c H locs (40 + 10 * t) (22000 + 1200 * t) (lw_Z below #[Value.ref b] s) (F0 m 112 ls []) := by
  obtain ⟨C, hKG, tX, ⟨ho0, ho1⟩, hX, hbl, hL, ht, hst⟩ := F
  obtain ⟨⟨P, hR⟩, hN, hl, rfl, rfl⟩ := I
  have hbA : ¬ (fun q : Nat => s.heap.size ≤ q) b := Nat.not_le.mpr hbl
  have hx := C.1.1
  have hb := C.1.2.1
  have hfit := lf_fit ht hL
  have hfl : 40 + 10 * t ≤ room_1.cells ∧ 22000 + 1200 * t ≤ room_1.slots := ⟨by omega, by omega⟩
  have hi1 : vp_in (nI (5 * t) + 1) L := lf_in (k := 1) rfl (by omega) hL
  have hi2 : vp_in (nI (5 * t) + 2) L := lf_in (k := 2) rfl (by omega) hL
  have hi3 : vp_in (nI (5 * t) + 3) L := lf_in (k := 3) rfl (by omega) hL
  have hi4 : vp_in (nI (5 * t) + 4) L := lf_in (k := 4) rfl (by omega) hL
  by_cases h : ¬ xs (nI (5 * t) + 1).toNatClampNeg < 1 ∧ xs (nI (5 * t) + 1).toNatClampNeg ≤ 127 ∧ n < 8
  · obtain ⟨a1, a2, a3, a4, a5, a6⟩ := as_n hR
    have R1 := Rel_c hR (w1 := cu_new u n (xs (nI (5 * t) + 1).toNatClampNeg)) (fun a b h => fc_new h)
    have z := re_ctl R1 h.2.2 h.1 h.2.1
    have M5 : ∀ {B : Nat → Nat}, ww_M l yX5_controller wsX5_controller ({ frames := 0, cells := 0, slots := 0, locals := 0 } : Room) D ca B (36 + 8 * (n + 1)) (n + 1) (ld_X ao cG f) (cu_new u n (xs (nI (5 * t) + 1).toNatClampNeg)) [.ref (B 0), .int (xs (nI (5 * t) + 1).toNatClampNeg)] (some (.int (mo_ctl n (cu_new u n (xs (nI (5 * t) + 1).toNatClampNeg)) (xs (nI (5 * t) + 1).toNatClampNeg)).2)) (mo_ctl n (cu_new u n (xs (nI (5 * t) + 1).toNatClampNeg)) (xs (nI (5 * t) + 1).toNatClampNeg)).1 := fun {B} => ct_X5_controller l (D := D) (ca := ca) (N := 36 + 8 * (n + 1)) (n := n + 1) (X := ld_X ao cG f) (xs (nI (5 * t) + 1).toNatClampNeg) a1 (as_n R1).2.2.2.1 (by omega)
    rw [z.1] at M5
    refine lv_aload_n hx hb dL_law_112 rfl (lv_at hl 1 rfl) ?_
    refine lv_aload_n hx hb dL_law_113 rfl (lv_at hl 0 rfl) ?_
    refine lv_iload hx hb dL_law_114 (lv_at hl 4 rfl) ?_
    refine lv_iconst (v := 1) hx hb dL_law_116 (by decide) ?_
    refine lv_iadd hx hb dL_law_117 ?_
    refine va_sld hx hb hX hbl hbA hN.2.2 hi1 dL_law_118 ?_
    refine ct_call C ho0 ho1 hN h.1 h.2.1 h.2.2 a3 lc_X4_controller ⟨Nat.le_of_ble_eq_true rfl, Nat.le_of_ble_eq_true rfl⟩ hl.1 rfl (Nat.le_of_ble_eq_true rfl) hfit dL_law_119 (fun B' H locs hB hN => ?_)
    have hl' : lv_has ls 7 [(0, .ref b), (1, .ref (B' 29)), (2, .ref (B' 0)), (3, .ref ao), (4, .int (nI (5 * t)))] := by rw [hB 29 (by omega), hB 0 (by omega)]; exact hl
    refine lv_aload_n hx hb dL_law_122 rfl (lv_at hl' 2 rfl) ?_
    refine lv_aload_n hx hb dL_law_123 rfl (lv_at hl' 0 rfl) ?_
    refine lv_iload hx hb dL_law_124 (lv_at hl' 4 rfl) ?_
    refine lv_iconst (v := 1) hx hb dL_law_126 (by decide) ?_
    refine lv_iadd hx hb dL_law_127 ?_
    refine va_sld hx hb hX hbl hbA hN.2.2 hi1 dL_law_128 ?_
    refine rr_callV (As := [.int (xs (nI (5 * t) + 1).toNatClampNeg)]) C hN 0 (by omega) rfl rfl rfl (M5 (B := B')) lc_X5_controller rfl rfl rfl 1 (by decide +kernel) ⟨Nat.le_of_ble_eq_true rfl, Nat.le_of_ble_eq_true rfl⟩ rfl hl.1 rfl (Nat.le_of_ble_eq_true rfl) hfit dL_law_129 (fun H locs hN => ?_)
    refine lv_icmp_eq (tgt := 703) hx hb dL_law_132 (by decide) (fun _ => ?_) (fun c9 => absurd rfl c9)
    refine W.widen (k := 40 + 10 * (t + 1)) (n := 22000 + 1200 * (t + 1)) (by omega) (by omega) ?_
    exact K (n + 1) B' _ f ls H locs ⟨⟨P, Rel_congr (fun a b h => fm_ctl h) (fun _ _ _ _ => rfl) z.2⟩, hN, hl, hB 29 (by omega), hB 0 (by omega)⟩
  · obtain ⟨r, u1, u2, P', M4, M5, hR2⟩ := lo_ctl0 l (D := D) (ca := ca) (B := B) (X := ld_X ao cG f) hR (xs (nI (5 * t) + 1).toNatClampNeg) h
    refine lv_aload_n hx hb dL_law_112 rfl (lv_at hl 1 rfl) ?_
    refine lv_aload_n hx hb dL_law_113 rfl (lv_at hl 0 rfl) ?_
    refine lv_iload hx hb dL_law_114 (lv_at hl 4 rfl) ?_
    refine lv_iconst (v := 1) hx hb dL_law_116 (by decide) ?_
    refine lv_iadd hx hb dL_law_117 ?_
    refine va_sld hx hb hX hbl hbA hN.2.2 hi1 dL_law_118 ?_
    refine rr_callV (As := [.int (xs (nI (5 * t) + 1).toNatClampNeg)]) C hN 29 (by omega) rfl rfl rfl M4 lc_X4_controller rfl rfl rfl 1 (by decide +kernel) ⟨Nat.le_of_ble_eq_true rfl, Nat.le_of_ble_eq_true rfl⟩ rfl hl.1 rfl (Nat.le_of_ble_eq_true rfl) hfl dL_law_119 (fun H locs hN => ?_)
    refine lv_aload_n hx hb dL_law_122 rfl (lv_at hl 2 rfl) ?_
    refine lv_aload_n hx hb dL_law_123 rfl (lv_at hl 0 rfl) ?_
    refine lv_iload hx hb dL_law_124 (lv_at hl 4 rfl) ?_
    refine lv_iconst (v := 1) hx hb dL_law_126 (by decide) ?_
    refine lv_iadd hx hb dL_law_127 ?_
    refine va_sld hx hb hX hbl hbA hN.2.2 hi1 dL_law_128 ?_
    refine rr_callV (As := [.int (xs (nI (5 * t) + 1).toNatClampNeg)]) C hN 0 (by omega) rfl rfl rfl M5 lc_X5_controller rfl rfl rfl 1 (by decide +kernel) ⟨Nat.le_of_ble_eq_true rfl, Nat.le_of_ble_eq_true rfl⟩ rfl hl.1 rfl (Nat.le_of_ble_eq_true rfl) hfl dL_law_129 (fun H locs hN => ?_)
    refine lv_icmp_eq (tgt := 703) hx hb dL_law_132 (by decide) (fun _ => ?_) (fun c9 => absurd rfl c9)
    refine W.widen (k := 40 + 10 * (t + 1)) (n := 22000 + 1200 * (t + 1)) (by omega) (by omega) ?_
    exact K n B u2 f ls H locs ⟨⟨P', hR2⟩, hN, hl, rfl, rfl⟩
set_option maxHeartbeats 4000000 in
set_option maxRecDepth 100000 in
theorem lz_1 (F : lf_F D ca cG l p s m b L xs meth c t) (I : lf_I D ca cG s b x0 m0 ao (5 * t) n B u f ls H locs) (K : lf_K D ca cG l p e s m below meth c b x0 m0 ao t) : W p l e room_1 s m #[Value.ref b] below meth c H locs (40 + 10 * t) (22000 + 1200 * t) (lw_Z below #[Value.ref b] s) (F0 m 137 ls []) := by
  obtain ⟨C, hKG, tX, ⟨ho0, ho1⟩, hX, hbl, hL, ht, hst⟩ := F
  obtain ⟨⟨P, hR⟩, hN, hl, rfl, rfl⟩ := I
  have hbA : ¬ (fun q : Nat => s.heap.size ≤ q) b := Nat.not_le.mpr hbl
  have hx := C.1.1
  have hb := C.1.2.1
  have hfit := lf_fit ht hL
  have hfl : 40 + 10 * t ≤ room_1.cells ∧ 22000 + 1200 * t ≤ room_1.slots := ⟨by omega, by omega⟩
  have hi1 : vp_in (nI (5 * t) + 1) L := lf_in (k := 1) rfl (by omega) hL
  have hi2 : vp_in (nI (5 * t) + 2) L := lf_in (k := 2) rfl (by omega) hL
  have hi3 : vp_in (nI (5 * t) + 3) L := lf_in (k := 3) rfl (by omega) hL
  have hi4 : vp_in (nI (5 * t) + 4) L := lf_in (k := 4) rfl (by omega) hL
  obtain ⟨u1, u2, P', M4, M5, hR2⟩ := lo_octet l (D := D) (ca := ca) (B := B) (X := ld_X ao cG f) hR ((xs (nI (5 * t) + 1).toNatClampNeg).toInt8.toInt32)
  refine lv_aload_n hx hb dL_law_137 rfl (lv_at hl 1 rfl) ?_
  refine lv_aload_n hx hb dL_law_138 rfl (lv_at hl 0 rfl) ?_
  refine lv_iload hx hb dL_law_139 (lv_at hl 4 rfl) ?_
  refine lv_iconst (v := 1) hx hb dL_law_141 (by decide) ?_
  refine lv_iadd hx hb dL_law_142 ?_
  refine va_sld hx hb hX hbl hbA hN.2.2 hi1 dL_law_143 ?_
  refine lv_i2b hx hb dL_law_144 rfl ?_
  refine rr_callV0 (As := [.int ((xs (nI (5 * t) + 1).toNatClampNeg).toInt8.toInt32)]) C hN 29 (by omega) rfl rfl rfl M4 lc_X4_octet rfl rfl rfl 1 (by decide +kernel) ⟨Nat.le_of_ble_eq_true rfl, Nat.le_of_ble_eq_true rfl⟩ rfl hl.1 rfl (Nat.le_of_ble_eq_true rfl) hfl dL_law_145 (fun H locs hN => ?_)
  refine lv_aload_n hx hb dL_law_148 rfl (lv_at hl 2 rfl) ?_
  refine lv_aload_n hx hb dL_law_149 rfl (lv_at hl 0 rfl) ?_
  refine lv_iload hx hb dL_law_150 (lv_at hl 4 rfl) ?_
  refine lv_iconst (v := 1) hx hb dL_law_152 (by decide) ?_
  refine lv_iadd hx hb dL_law_153 ?_
  refine va_sld hx hb hX hbl hbA hN.2.2 hi1 dL_law_154 ?_
  refine lv_i2b hx hb dL_law_155 rfl ?_
  refine rr_callV0 (As := [.int ((xs (nI (5 * t) + 1).toNatClampNeg).toInt8.toInt32)]) C hN 0 (by omega) rfl rfl rfl M5 lc_X5_octet rfl rfl rfl 1 (by decide +kernel) ⟨Nat.le_of_ble_eq_true rfl, Nat.le_of_ble_eq_true rfl⟩ rfl hl.1 rfl (Nat.le_of_ble_eq_true rfl) hfl dL_law_156 (fun H locs hN => ?_)
  refine lv_goto (tgt := 703) hx hb dL_law_159 (by decide) ?_
  refine W.widen (k := 40 + 10 * (t + 1)) (n := 22000 + 1200 * (t + 1)) (by omega) (by omega) ?_
  exact K n B u2 f ls H locs ⟨⟨P', hR2⟩, hN, hl, rfl, rfl⟩
set_option maxHeartbeats 4000000 in
set_option maxRecDepth 100000 in
theorem lz_2 (F : lf_F D ca cG l p s m b L xs meth c t) (I : lf_I D ca cG s b x0 m0 ao (5 * t) n B u f ls H locs) (K : lf_K D ca cG l p e s m below meth c b x0 m0 ao t) : W p l e room_1 s m #[Value.ref b] below meth c H locs (40 + 10 * t) (22000 + 1200 * t) (lw_Z below #[Value.ref b] s) (F0 m 162 ls []) := by
  obtain ⟨C, hKG, tX, ⟨ho0, ho1⟩, hX, hbl, hL, ht, hst⟩ := F
  obtain ⟨⟨P, hR⟩, hN, hl, rfl, rfl⟩ := I
  have hbA : ¬ (fun q : Nat => s.heap.size ≤ q) b := Nat.not_le.mpr hbl
  have hx := C.1.1
  have hb := C.1.2.1
  have hfit := lf_fit ht hL
  have hfl : 40 + 10 * t ≤ room_1.cells ∧ 22000 + 1200 * t ≤ room_1.slots := ⟨by omega, by omega⟩
  have hi1 : vp_in (nI (5 * t) + 1) L := lf_in (k := 1) rfl (by omega) hL
  have hi2 : vp_in (nI (5 * t) + 2) L := lf_in (k := 2) rfl (by omega) hL
  have hi3 : vp_in (nI (5 * t) + 3) L := lf_in (k := 3) rfl (by omega) hL
  have hi4 : vp_in (nI (5 * t) + 4) L := lf_in (k := 4) rfl (by omega) hL
  by_cases h0 : xs (nI (5 * t) + 3).toNatClampNeg = 0
  · obtain ⟨r, u1, u2, P', M4, M5, hR2⟩ := lo_pack l (D := D) (ca := ca) (B := B) (X := ld_X ao cG f) hR (xs (nI (5 * t) + 1).toNatClampNeg) (xs (nI (5 * t) + 2).toNatClampNeg) (0)
    refine lv_aload_n hx hb dL_law_162 rfl (lv_at hl 1 rfl) ?_
    refine lv_aload_n hx hb dL_law_163 rfl (lv_at hl 0 rfl) ?_
    refine lv_iload hx hb dL_law_164 (lv_at hl 4 rfl) ?_
    refine lv_iconst (v := 1) hx hb dL_law_166 (by decide) ?_
    refine lv_iadd hx hb dL_law_167 ?_
    refine va_sld hx hb hX hbl hbA hN.2.2 hi1 dL_law_168 ?_
    refine lv_aload_n hx hb dL_law_169 rfl (lv_at hl 0 rfl) ?_
    refine lv_iload hx hb dL_law_170 (lv_at hl 4 rfl) ?_
    refine lv_iconst (v := 2) hx hb dL_law_172 (by decide) ?_
    refine lv_iadd hx hb dL_law_173 ?_
    refine va_sld hx hb hX hbl hbA hN.2.2 hi2 dL_law_174 ?_
    refine lv_aload_n hx hb dL_law_175 rfl (lv_at hl 0 rfl) ?_
    refine lv_iload hx hb dL_law_176 (lv_at hl 4 rfl) ?_
    refine lv_iconst (v := 3) hx hb dL_law_178 (by decide) ?_
    refine lv_iadd hx hb dL_law_179 ?_
    refine va_sld hx hb hX hbl hbA hN.2.2 hi3 dL_law_180 ?_
    refine lv_if_eq (tgt := 188) hx hb dL_law_181 (by decide) (fun _ => ?_) (fun c9 => absurd h0 c9)
    refine lv_iconst (v := 0) hx hb dL_law_188 (by decide) ?_
    refine rr_callV (As := [.int (xs (nI (5 * t) + 1).toNatClampNeg), .int (xs (nI (5 * t) + 2).toNatClampNeg), .int (0)]) C hN 29 (by omega) rfl rfl rfl M4 lc_X4_package0 rfl rfl rfl 3 (by decide +kernel) ⟨Nat.le_of_ble_eq_true rfl, Nat.le_of_ble_eq_true rfl⟩ rfl hl.1 rfl (Nat.le_of_ble_eq_true rfl) hfl dL_law_189 (fun H locs hN => ?_)
    refine lv_aload_n hx hb dL_law_192 rfl (lv_at hl 2 rfl) ?_
    refine lv_aload_n hx hb dL_law_193 rfl (lv_at hl 0 rfl) ?_
    refine lv_iload hx hb dL_law_194 (lv_at hl 4 rfl) ?_
    refine lv_iconst (v := 1) hx hb dL_law_196 (by decide) ?_
    refine lv_iadd hx hb dL_law_197 ?_
    refine va_sld hx hb hX hbl hbA hN.2.2 hi1 dL_law_198 ?_
    refine lv_aload_n hx hb dL_law_199 rfl (lv_at hl 0 rfl) ?_
    refine lv_iload hx hb dL_law_200 (lv_at hl 4 rfl) ?_
    refine lv_iconst (v := 2) hx hb dL_law_202 (by decide) ?_
    refine lv_iadd hx hb dL_law_203 ?_
    refine va_sld hx hb hX hbl hbA hN.2.2 hi2 dL_law_204 ?_
    refine lv_aload_n hx hb dL_law_205 rfl (lv_at hl 0 rfl) ?_
    refine lv_iload hx hb dL_law_206 (lv_at hl 4 rfl) ?_
    refine lv_iconst (v := 3) hx hb dL_law_208 (by decide) ?_
    refine lv_iadd hx hb dL_law_209 ?_
    refine va_sld hx hb hX hbl hbA hN.2.2 hi3 dL_law_210 ?_
    refine lv_if_eq (tgt := 218) hx hb dL_law_211 (by decide) (fun _ => ?_) (fun c9 => absurd h0 c9)
    refine lv_iconst (v := 0) hx hb dL_law_218 (by decide) ?_
    refine rr_callV (As := [.int (xs (nI (5 * t) + 1).toNatClampNeg), .int (xs (nI (5 * t) + 2).toNatClampNeg), .int (0)]) C hN 0 (by omega) rfl rfl rfl M5 lc_X5_package0 rfl rfl rfl 3 (by decide +kernel) ⟨Nat.le_of_ble_eq_true rfl, Nat.le_of_ble_eq_true rfl⟩ rfl hl.1 rfl (Nat.le_of_ble_eq_true rfl) hfl dL_law_219 (fun H locs hN => ?_)
    refine lv_icmp_eq (tgt := 703) hx hb dL_law_222 (by decide) (fun _ => ?_) (fun c9 => absurd rfl c9)
    refine W.widen (k := 40 + 10 * (t + 1)) (n := 22000 + 1200 * (t + 1)) (by omega) (by omega) ?_
    exact K n B u2 f ls H locs ⟨⟨P', hR2⟩, hN, hl, rfl, rfl⟩
  · obtain ⟨r, u1, u2, P', M4, M5, hR2⟩ := lo_pack l (D := D) (ca := ca) (B := B) (X := ld_X ao cG f) hR (xs (nI (5 * t) + 1).toNatClampNeg) (xs (nI (5 * t) + 2).toNatClampNeg) (1)
    refine lv_aload_n hx hb dL_law_162 rfl (lv_at hl 1 rfl) ?_
    refine lv_aload_n hx hb dL_law_163 rfl (lv_at hl 0 rfl) ?_
    refine lv_iload hx hb dL_law_164 (lv_at hl 4 rfl) ?_
    refine lv_iconst (v := 1) hx hb dL_law_166 (by decide) ?_
    refine lv_iadd hx hb dL_law_167 ?_
    refine va_sld hx hb hX hbl hbA hN.2.2 hi1 dL_law_168 ?_
    refine lv_aload_n hx hb dL_law_169 rfl (lv_at hl 0 rfl) ?_
    refine lv_iload hx hb dL_law_170 (lv_at hl 4 rfl) ?_
    refine lv_iconst (v := 2) hx hb dL_law_172 (by decide) ?_
    refine lv_iadd hx hb dL_law_173 ?_
    refine va_sld hx hb hX hbl hbA hN.2.2 hi2 dL_law_174 ?_
    refine lv_aload_n hx hb dL_law_175 rfl (lv_at hl 0 rfl) ?_
    refine lv_iload hx hb dL_law_176 (lv_at hl 4 rfl) ?_
    refine lv_iconst (v := 3) hx hb dL_law_178 (by decide) ?_
    refine lv_iadd hx hb dL_law_179 ?_
    refine va_sld hx hb hX hbl hbA hN.2.2 hi3 dL_law_180 ?_
    refine lv_if_eq (tgt := 188) hx hb dL_law_181 (by decide) (fun c9 => absurd c9 h0) (fun _ => ?_)
    refine lv_iconst (v := 1) hx hb dL_law_184 (by decide) ?_
    refine lv_goto (tgt := 189) hx hb dL_law_185 (by decide) ?_
    refine rr_callV (As := [.int (xs (nI (5 * t) + 1).toNatClampNeg), .int (xs (nI (5 * t) + 2).toNatClampNeg), .int (1)]) C hN 29 (by omega) rfl rfl rfl M4 lc_X4_package0 rfl rfl rfl 3 (by decide +kernel) ⟨Nat.le_of_ble_eq_true rfl, Nat.le_of_ble_eq_true rfl⟩ rfl hl.1 rfl (Nat.le_of_ble_eq_true rfl) hfl dL_law_189 (fun H locs hN => ?_)
    refine lv_aload_n hx hb dL_law_192 rfl (lv_at hl 2 rfl) ?_
    refine lv_aload_n hx hb dL_law_193 rfl (lv_at hl 0 rfl) ?_
    refine lv_iload hx hb dL_law_194 (lv_at hl 4 rfl) ?_
    refine lv_iconst (v := 1) hx hb dL_law_196 (by decide) ?_
    refine lv_iadd hx hb dL_law_197 ?_
    refine va_sld hx hb hX hbl hbA hN.2.2 hi1 dL_law_198 ?_
    refine lv_aload_n hx hb dL_law_199 rfl (lv_at hl 0 rfl) ?_
    refine lv_iload hx hb dL_law_200 (lv_at hl 4 rfl) ?_
    refine lv_iconst (v := 2) hx hb dL_law_202 (by decide) ?_
    refine lv_iadd hx hb dL_law_203 ?_
    refine va_sld hx hb hX hbl hbA hN.2.2 hi2 dL_law_204 ?_
    refine lv_aload_n hx hb dL_law_205 rfl (lv_at hl 0 rfl) ?_
    refine lv_iload hx hb dL_law_206 (lv_at hl 4 rfl) ?_
    refine lv_iconst (v := 3) hx hb dL_law_208 (by decide) ?_
    refine lv_iadd hx hb dL_law_209 ?_
    refine va_sld hx hb hX hbl hbA hN.2.2 hi3 dL_law_210 ?_
    refine lv_if_eq (tgt := 218) hx hb dL_law_211 (by decide) (fun c9 => absurd c9 h0) (fun _ => ?_)
    refine lv_iconst (v := 1) hx hb dL_law_214 (by decide) ?_
    refine lv_goto (tgt := 219) hx hb dL_law_215 (by decide) ?_
    refine rr_callV (As := [.int (xs (nI (5 * t) + 1).toNatClampNeg), .int (xs (nI (5 * t) + 2).toNatClampNeg), .int (1)]) C hN 0 (by omega) rfl rfl rfl M5 lc_X5_package0 rfl rfl rfl 3 (by decide +kernel) ⟨Nat.le_of_ble_eq_true rfl, Nat.le_of_ble_eq_true rfl⟩ rfl hl.1 rfl (Nat.le_of_ble_eq_true rfl) hfl dL_law_219 (fun H locs hN => ?_)
    refine lv_icmp_eq (tgt := 703) hx hb dL_law_222 (by decide) (fun _ => ?_) (fun c9 => absurd rfl c9)
    refine W.widen (k := 40 + 10 * (t + 1)) (n := 22000 + 1200 * (t + 1)) (by omega) (by omega) ?_
    exact K n B u2 f ls H locs ⟨⟨P', hR2⟩, hN, hl, rfl, rfl⟩
set_option maxHeartbeats 4000000 in
set_option maxRecDepth 100000 in
theorem lz_4 (F : lf_F D ca cG l p s m b L xs meth c t) (I : lf_I D ca cG s b x0 m0 ao (5 * t) n B u f ls H locs) (K : lf_K D ca cG l p e s m below meth c b x0 m0 ao t) : W p l e room_1 s m #[Value.ref b] below meth c H locs (40 + 10 * t) (22000 + 1200 * t) (lw_Z below #[Value.ref b] s) (F0 m 283 ls []) := by
  obtain ⟨C, hKG, tX, ⟨ho0, ho1⟩, hX, hbl, hL, ht, hst⟩ := F
  obtain ⟨⟨P, hR⟩, hN, hl, rfl, rfl⟩ := I
  have hbA : ¬ (fun q : Nat => s.heap.size ≤ q) b := Nat.not_le.mpr hbl
  have hx := C.1.1
  have hb := C.1.2.1
  have hfit := lf_fit ht hL
  have hfl : 40 + 10 * t ≤ room_1.cells ∧ 22000 + 1200 * t ≤ room_1.slots := ⟨by omega, by omega⟩
  have hi1 : vp_in (nI (5 * t) + 1) L := lf_in (k := 1) rfl (by omega) hL
  have hi2 : vp_in (nI (5 * t) + 2) L := lf_in (k := 2) rfl (by omega) hL
  have hi3 : vp_in (nI (5 * t) + 3) L := lf_in (k := 3) rfl (by omega) hL
  have hi4 : vp_in (nI (5 * t) + 4) L := lf_in (k := 4) rfl (by omega) hL
  obtain ⟨r, u1, u2, P', M4, M5, hR2⟩ := lo_needs l (D := D) (ca := ca) (B := B) (X := ld_X ao cG f) hR (xs (nI (5 * t) + 1).toNatClampNeg) (xs (nI (5 * t) + 2).toNatClampNeg)
  refine lv_aload_n hx hb dL_law_283 rfl (lv_at hl 1 rfl) ?_
  refine lv_aload_n hx hb dL_law_284 rfl (lv_at hl 0 rfl) ?_
  refine lv_iload hx hb dL_law_285 (lv_at hl 4 rfl) ?_
  refine lv_iconst (v := 1) hx hb dL_law_287 (by decide) ?_
  refine lv_iadd hx hb dL_law_288 ?_
  refine va_sld hx hb hX hbl hbA hN.2.2 hi1 dL_law_289 ?_
  refine lv_aload_n hx hb dL_law_290 rfl (lv_at hl 0 rfl) ?_
  refine lv_iload hx hb dL_law_291 (lv_at hl 4 rfl) ?_
  refine lv_iconst (v := 2) hx hb dL_law_293 (by decide) ?_
  refine lv_iadd hx hb dL_law_294 ?_
  refine va_sld hx hb hX hbl hbA hN.2.2 hi2 dL_law_295 ?_
  refine rr_callV (As := [.int (xs (nI (5 * t) + 1).toNatClampNeg), .int (xs (nI (5 * t) + 2).toNatClampNeg)]) C hN 29 (by omega) rfl rfl rfl M4 lc_X4_needs rfl rfl rfl 2 (by decide +kernel) ⟨Nat.le_of_ble_eq_true rfl, Nat.le_of_ble_eq_true rfl⟩ rfl hl.1 rfl (Nat.le_of_ble_eq_true rfl) hfl dL_law_296 (fun H locs hN => ?_)
  refine lv_aload_n hx hb dL_law_299 rfl (lv_at hl 2 rfl) ?_
  refine lv_aload_n hx hb dL_law_300 rfl (lv_at hl 0 rfl) ?_
  refine lv_iload hx hb dL_law_301 (lv_at hl 4 rfl) ?_
  refine lv_iconst (v := 1) hx hb dL_law_303 (by decide) ?_
  refine lv_iadd hx hb dL_law_304 ?_
  refine va_sld hx hb hX hbl hbA hN.2.2 hi1 dL_law_305 ?_
  refine lv_aload_n hx hb dL_law_306 rfl (lv_at hl 0 rfl) ?_
  refine lv_iload hx hb dL_law_307 (lv_at hl 4 rfl) ?_
  refine lv_iconst (v := 2) hx hb dL_law_309 (by decide) ?_
  refine lv_iadd hx hb dL_law_310 ?_
  refine va_sld hx hb hX hbl hbA hN.2.2 hi2 dL_law_311 ?_
  refine rr_callV (As := [.int (xs (nI (5 * t) + 1).toNatClampNeg), .int (xs (nI (5 * t) + 2).toNatClampNeg)]) C hN 0 (by omega) rfl rfl rfl M5 lc_X5_needs rfl rfl rfl 2 (by decide +kernel) ⟨Nat.le_of_ble_eq_true rfl, Nat.le_of_ble_eq_true rfl⟩ rfl hl.1 rfl (Nat.le_of_ble_eq_true rfl) hfl dL_law_312 (fun H locs hN => ?_)
  refine lv_icmp_eq (tgt := 703) hx hb dL_law_315 (by decide) (fun _ => ?_) (fun c9 => absurd rfl c9)
  refine W.widen (k := 40 + 10 * (t + 1)) (n := 22000 + 1200 * (t + 1)) (by omega) (by omega) ?_
  exact K n B u2 f ls H locs ⟨⟨P', hR2⟩, hN, hl, rfl, rfl⟩
set_option maxHeartbeats 4000000 in
set_option maxRecDepth 100000 in
theorem lz_5 (F : lf_F D ca cG l p s m b L xs meth c t) (I : lf_I D ca cG s b x0 m0 ao (5 * t) n B u f ls H locs) (K : lf_K D ca cG l p e s m below meth c b x0 m0 ao t) : W p l e room_1 s m #[Value.ref b] below meth c H locs (40 + 10 * t) (22000 + 1200 * t) (lw_Z below #[Value.ref b] s) (F0 m 320 ls []) := by
  obtain ⟨C, hKG, tX, ⟨ho0, ho1⟩, hX, hbl, hL, ht, hst⟩ := F
  obtain ⟨⟨P, hR⟩, hN, hl, rfl, rfl⟩ := I
  have hbA : ¬ (fun q : Nat => s.heap.size ≤ q) b := Nat.not_le.mpr hbl
  have hx := C.1.1
  have hb := C.1.2.1
  have hfit := lf_fit ht hL
  have hfl : 40 + 10 * t ≤ room_1.cells ∧ 22000 + 1200 * t ≤ room_1.slots := ⟨by omega, by omega⟩
  have hi1 : vp_in (nI (5 * t) + 1) L := lf_in (k := 1) rfl (by omega) hL
  have hi2 : vp_in (nI (5 * t) + 2) L := lf_in (k := 2) rfl (by omega) hL
  have hi3 : vp_in (nI (5 * t) + 3) L := lf_in (k := 3) rfl (by omega) hL
  have hi4 : vp_in (nI (5 * t) + 4) L := lf_in (k := 4) rfl (by omega) hL
  obtain ⟨r, u1, u2, P', M4, M5, hR2⟩ := lo_block l (D := D) (ca := ca) (B := B) (X := ld_X ao cG f) hR (xs (nI (5 * t) + 1).toNatClampNeg) (xs (nI (5 * t) + 2).toNatClampNeg) ((xs (nI (5 * t) + 3).toNatClampNeg).toInt8.toInt32) (i8_8 _)
  refine lv_aload_n hx hb dL_law_320 rfl (lv_at hl 1 rfl) ?_
  refine lv_aload_n hx hb dL_law_321 rfl (lv_at hl 0 rfl) ?_
  refine lv_iload hx hb dL_law_322 (lv_at hl 4 rfl) ?_
  refine lv_iconst (v := 1) hx hb dL_law_324 (by decide) ?_
  refine lv_iadd hx hb dL_law_325 ?_
  refine va_sld hx hb hX hbl hbA hN.2.2 hi1 dL_law_326 ?_
  refine lv_aload_n hx hb dL_law_327 rfl (lv_at hl 0 rfl) ?_
  refine lv_iload hx hb dL_law_328 (lv_at hl 4 rfl) ?_
  refine lv_iconst (v := 2) hx hb dL_law_330 (by decide) ?_
  refine lv_iadd hx hb dL_law_331 ?_
  refine va_sld hx hb hX hbl hbA hN.2.2 hi2 dL_law_332 ?_
  refine lv_aload_n hx hb dL_law_333 rfl (lv_at hl 0 rfl) ?_
  refine lv_iload hx hb dL_law_334 (lv_at hl 4 rfl) ?_
  refine lv_iconst (v := 3) hx hb dL_law_336 (by decide) ?_
  refine lv_iadd hx hb dL_law_337 ?_
  refine va_sld hx hb hX hbl hbA hN.2.2 hi3 dL_law_338 ?_
  refine lv_i2b hx hb dL_law_339 rfl ?_
  refine rr_callV (As := [.int (xs (nI (5 * t) + 1).toNatClampNeg), .int (xs (nI (5 * t) + 2).toNatClampNeg), .int ((xs (nI (5 * t) + 3).toNatClampNeg).toInt8.toInt32)]) C hN 29 (by omega) rfl rfl rfl M4 lc_X4_block rfl rfl rfl 3 (by decide +kernel) ⟨Nat.le_of_ble_eq_true rfl, Nat.le_of_ble_eq_true rfl⟩ rfl hl.1 rfl (Nat.le_of_ble_eq_true rfl) hfl dL_law_340 (fun H locs hN => ?_)
  refine lv_aload_n hx hb dL_law_343 rfl (lv_at hl 2 rfl) ?_
  refine lv_aload_n hx hb dL_law_344 rfl (lv_at hl 0 rfl) ?_
  refine lv_iload hx hb dL_law_345 (lv_at hl 4 rfl) ?_
  refine lv_iconst (v := 1) hx hb dL_law_347 (by decide) ?_
  refine lv_iadd hx hb dL_law_348 ?_
  refine va_sld hx hb hX hbl hbA hN.2.2 hi1 dL_law_349 ?_
  refine lv_aload_n hx hb dL_law_350 rfl (lv_at hl 0 rfl) ?_
  refine lv_iload hx hb dL_law_351 (lv_at hl 4 rfl) ?_
  refine lv_iconst (v := 2) hx hb dL_law_353 (by decide) ?_
  refine lv_iadd hx hb dL_law_354 ?_
  refine va_sld hx hb hX hbl hbA hN.2.2 hi2 dL_law_355 ?_
  refine lv_aload_n hx hb dL_law_356 rfl (lv_at hl 0 rfl) ?_
  refine lv_iload hx hb dL_law_357 (lv_at hl 4 rfl) ?_
  refine lv_iconst (v := 3) hx hb dL_law_359 (by decide) ?_
  refine lv_iadd hx hb dL_law_360 ?_
  refine va_sld hx hb hX hbl hbA hN.2.2 hi3 dL_law_361 ?_
  refine lv_i2b hx hb dL_law_362 rfl ?_
  refine rr_callV (As := [.int (xs (nI (5 * t) + 1).toNatClampNeg), .int (xs (nI (5 * t) + 2).toNatClampNeg), .int ((xs (nI (5 * t) + 3).toNatClampNeg).toInt8.toInt32)]) C hN 0 (by omega) rfl rfl rfl M5 lc_X5_block rfl rfl rfl 3 (by decide +kernel) ⟨Nat.le_of_ble_eq_true rfl, Nat.le_of_ble_eq_true rfl⟩ rfl hl.1 rfl (Nat.le_of_ble_eq_true rfl) hfl dL_law_363 (fun H locs hN => ?_)
  refine lv_icmp_eq (tgt := 703) hx hb dL_law_366 (by decide) (fun _ => ?_) (fun c9 => absurd rfl c9)
  refine W.widen (k := 40 + 10 * (t + 1)) (n := 22000 + 1200 * (t + 1)) (by omega) (by omega) ?_
  exact K n B u2 f ls H locs ⟨⟨P', hR2⟩, hN, hl, rfl, rfl⟩
set_option maxHeartbeats 4000000 in
set_option maxRecDepth 100000 in
theorem lz_6 (F : lf_F D ca cG l p s m b L xs meth c t) (I : lf_I D ca cG s b x0 m0 ao (5 * t) n B u f ls H locs) (K : lf_K D ca cG l p e s m below meth c b x0 m0 ao t) : W p l e room_1 s m #[Value.ref b] below meth c H locs (40 + 10 * t) (22000 + 1200 * t) (lw_Z below #[Value.ref b] s) (F0 m 371 ls []) := by
  obtain ⟨C, hKG, tX, ⟨ho0, ho1⟩, hX, hbl, hL, ht, hst⟩ := F
  obtain ⟨⟨P, hR⟩, hN, hl, rfl, rfl⟩ := I
  have hbA : ¬ (fun q : Nat => s.heap.size ≤ q) b := Nat.not_le.mpr hbl
  have hx := C.1.1
  have hb := C.1.2.1
  have hfit := lf_fit ht hL
  have hfl : 40 + 10 * t ≤ room_1.cells ∧ 22000 + 1200 * t ≤ room_1.slots := ⟨by omega, by omega⟩
  have hi1 : vp_in (nI (5 * t) + 1) L := lf_in (k := 1) rfl (by omega) hL
  have hi2 : vp_in (nI (5 * t) + 2) L := lf_in (k := 2) rfl (by omega) hL
  have hi3 : vp_in (nI (5 * t) + 3) L := lf_in (k := 3) rfl (by omega) hL
  have hi4 : vp_in (nI (5 * t) + 4) L := lf_in (k := 4) rfl (by omega) hL
  by_cases h0 : xs (nI (5 * t) + 2).toNatClampNeg = 0
  · obtain ⟨r, u1, u2, P', M4, M5, hR2⟩ := lo_cond l (D := D) (ca := ca) (B := B) (X := ld_X ao cG f) hR (xs (nI (5 * t) + 1).toNatClampNeg) (0) (Or.inl rfl)
    refine lv_aload_n hx hb dL_law_371 rfl (lv_at hl 1 rfl) ?_
    refine lv_aload_n hx hb dL_law_372 rfl (lv_at hl 0 rfl) ?_
    refine lv_iload hx hb dL_law_373 (lv_at hl 4 rfl) ?_
    refine lv_iconst (v := 1) hx hb dL_law_375 (by decide) ?_
    refine lv_iadd hx hb dL_law_376 ?_
    refine va_sld hx hb hX hbl hbA hN.2.2 hi1 dL_law_377 ?_
    refine lv_aload_n hx hb dL_law_378 rfl (lv_at hl 0 rfl) ?_
    refine lv_iload hx hb dL_law_379 (lv_at hl 4 rfl) ?_
    refine lv_iconst (v := 2) hx hb dL_law_381 (by decide) ?_
    refine lv_iadd hx hb dL_law_382 ?_
    refine va_sld hx hb hX hbl hbA hN.2.2 hi2 dL_law_383 ?_
    refine lv_if_eq (tgt := 391) hx hb dL_law_384 (by decide) (fun _ => ?_) (fun c9 => absurd h0 c9)
    refine lv_iconst (v := 0) hx hb dL_law_391 (by decide) ?_
    refine rr_callV (As := [.int (xs (nI (5 * t) + 1).toNatClampNeg), .int (0)]) C hN 29 (by omega) rfl rfl rfl M4 lc_X4_condition rfl rfl rfl 2 (by decide +kernel) ⟨Nat.le_of_ble_eq_true rfl, Nat.le_of_ble_eq_true rfl⟩ rfl hl.1 rfl (Nat.le_of_ble_eq_true rfl) hfl dL_law_392 (fun H locs hN => ?_)
    refine lv_aload_n hx hb dL_law_395 rfl (lv_at hl 2 rfl) ?_
    refine lv_aload_n hx hb dL_law_396 rfl (lv_at hl 0 rfl) ?_
    refine lv_iload hx hb dL_law_397 (lv_at hl 4 rfl) ?_
    refine lv_iconst (v := 1) hx hb dL_law_399 (by decide) ?_
    refine lv_iadd hx hb dL_law_400 ?_
    refine va_sld hx hb hX hbl hbA hN.2.2 hi1 dL_law_401 ?_
    refine lv_aload_n hx hb dL_law_402 rfl (lv_at hl 0 rfl) ?_
    refine lv_iload hx hb dL_law_403 (lv_at hl 4 rfl) ?_
    refine lv_iconst (v := 2) hx hb dL_law_405 (by decide) ?_
    refine lv_iadd hx hb dL_law_406 ?_
    refine va_sld hx hb hX hbl hbA hN.2.2 hi2 dL_law_407 ?_
    refine lv_if_eq (tgt := 415) hx hb dL_law_408 (by decide) (fun _ => ?_) (fun c9 => absurd h0 c9)
    refine lv_iconst (v := 0) hx hb dL_law_415 (by decide) ?_
    refine rr_callV (As := [.int (xs (nI (5 * t) + 1).toNatClampNeg), .int (0)]) C hN 0 (by omega) rfl rfl rfl M5 lc_X5_condition rfl rfl rfl 2 (by decide +kernel) ⟨Nat.le_of_ble_eq_true rfl, Nat.le_of_ble_eq_true rfl⟩ rfl hl.1 rfl (Nat.le_of_ble_eq_true rfl) hfl dL_law_416 (fun H locs hN => ?_)
    refine lv_icmp_eq (tgt := 703) hx hb dL_law_419 (by decide) (fun _ => ?_) (fun c9 => absurd rfl c9)
    refine W.widen (k := 40 + 10 * (t + 1)) (n := 22000 + 1200 * (t + 1)) (by omega) (by omega) ?_
    exact K n B u2 f ls H locs ⟨⟨P', hR2⟩, hN, hl, rfl, rfl⟩
  · obtain ⟨r, u1, u2, P', M4, M5, hR2⟩ := lo_cond l (D := D) (ca := ca) (B := B) (X := ld_X ao cG f) hR (xs (nI (5 * t) + 1).toNatClampNeg) (1) (Or.inr rfl)
    refine lv_aload_n hx hb dL_law_371 rfl (lv_at hl 1 rfl) ?_
    refine lv_aload_n hx hb dL_law_372 rfl (lv_at hl 0 rfl) ?_
    refine lv_iload hx hb dL_law_373 (lv_at hl 4 rfl) ?_
    refine lv_iconst (v := 1) hx hb dL_law_375 (by decide) ?_
    refine lv_iadd hx hb dL_law_376 ?_
    refine va_sld hx hb hX hbl hbA hN.2.2 hi1 dL_law_377 ?_
    refine lv_aload_n hx hb dL_law_378 rfl (lv_at hl 0 rfl) ?_
    refine lv_iload hx hb dL_law_379 (lv_at hl 4 rfl) ?_
    refine lv_iconst (v := 2) hx hb dL_law_381 (by decide) ?_
    refine lv_iadd hx hb dL_law_382 ?_
    refine va_sld hx hb hX hbl hbA hN.2.2 hi2 dL_law_383 ?_
    refine lv_if_eq (tgt := 391) hx hb dL_law_384 (by decide) (fun c9 => absurd c9 h0) (fun _ => ?_)
    refine lv_iconst (v := 1) hx hb dL_law_387 (by decide) ?_
    refine lv_goto (tgt := 392) hx hb dL_law_388 (by decide) ?_
    refine rr_callV (As := [.int (xs (nI (5 * t) + 1).toNatClampNeg), .int (1)]) C hN 29 (by omega) rfl rfl rfl M4 lc_X4_condition rfl rfl rfl 2 (by decide +kernel) ⟨Nat.le_of_ble_eq_true rfl, Nat.le_of_ble_eq_true rfl⟩ rfl hl.1 rfl (Nat.le_of_ble_eq_true rfl) hfl dL_law_392 (fun H locs hN => ?_)
    refine lv_aload_n hx hb dL_law_395 rfl (lv_at hl 2 rfl) ?_
    refine lv_aload_n hx hb dL_law_396 rfl (lv_at hl 0 rfl) ?_
    refine lv_iload hx hb dL_law_397 (lv_at hl 4 rfl) ?_
    refine lv_iconst (v := 1) hx hb dL_law_399 (by decide) ?_
    refine lv_iadd hx hb dL_law_400 ?_
    refine va_sld hx hb hX hbl hbA hN.2.2 hi1 dL_law_401 ?_
    refine lv_aload_n hx hb dL_law_402 rfl (lv_at hl 0 rfl) ?_
    refine lv_iload hx hb dL_law_403 (lv_at hl 4 rfl) ?_
    refine lv_iconst (v := 2) hx hb dL_law_405 (by decide) ?_
    refine lv_iadd hx hb dL_law_406 ?_
    refine va_sld hx hb hX hbl hbA hN.2.2 hi2 dL_law_407 ?_
    refine lv_if_eq (tgt := 415) hx hb dL_law_408 (by decide) (fun c9 => absurd c9 h0) (fun _ => ?_)
    refine lv_iconst (v := 1) hx hb dL_law_411 (by decide) ?_
    refine lv_goto (tgt := 416) hx hb dL_law_412 (by decide) ?_
    refine rr_callV (As := [.int (xs (nI (5 * t) + 1).toNatClampNeg), .int (1)]) C hN 0 (by omega) rfl rfl rfl M5 lc_X5_condition rfl rfl rfl 2 (by decide +kernel) ⟨Nat.le_of_ble_eq_true rfl, Nat.le_of_ble_eq_true rfl⟩ rfl hl.1 rfl (Nat.le_of_ble_eq_true rfl) hfl dL_law_416 (fun H locs hN => ?_)
    refine lv_icmp_eq (tgt := 703) hx hb dL_law_419 (by decide) (fun _ => ?_) (fun c9 => absurd rfl c9)
    refine W.widen (k := 40 + 10 * (t + 1)) (n := 22000 + 1200 * (t + 1)) (by omega) (by omega) ?_
    exact K n B u2 f ls H locs ⟨⟨P', hR2⟩, hN, hl, rfl, rfl⟩
set_option maxHeartbeats 4000000 in
set_option maxRecDepth 100000 in
theorem lz_7 (F : lf_F D ca cG l p s m b L xs meth c t) (I : lf_I D ca cG s b x0 m0 ao (5 * t) n B u f ls H locs) (K : lf_K D ca cG l p e s m below meth c b x0 m0 ao t) : W p l e room_1 s m #[Value.ref b] below meth c H locs (40 + 10 * t) (22000 + 1200 * t) (lw_Z below #[Value.ref b] s) (F0 m 424 ls []) := by
  obtain ⟨C, hKG, tX, ⟨ho0, ho1⟩, hX, hbl, hL, ht, hst⟩ := F
  obtain ⟨⟨P, hR⟩, hN, hl, rfl, rfl⟩ := I
  have hbA : ¬ (fun q : Nat => s.heap.size ≤ q) b := Nat.not_le.mpr hbl
  have hx := C.1.1
  have hb := C.1.2.1
  have hfit := lf_fit ht hL
  have hfl : 40 + 10 * t ≤ room_1.cells ∧ 22000 + 1200 * t ≤ room_1.slots := ⟨by omega, by omega⟩
  have hi1 : vp_in (nI (5 * t) + 1) L := lf_in (k := 1) rfl (by omega) hL
  have hi2 : vp_in (nI (5 * t) + 2) L := lf_in (k := 2) rfl (by omega) hL
  have hi3 : vp_in (nI (5 * t) + 3) L := lf_in (k := 3) rfl (by omega) hL
  have hi4 : vp_in (nI (5 * t) + 4) L := lf_in (k := 4) rfl (by omega) hL
  obtain ⟨r, u1, u2, P', M4, M5, hR2⟩ := lo_step l (D := D) (ca := ca) (B := B) (X := ld_X ao cG f) hR (xs (nI (5 * t) + 1).toNatClampNeg)
  refine lv_aload_n hx hb dL_law_424 rfl (lv_at hl 1 rfl) ?_
  refine lv_aload_n hx hb dL_law_425 rfl (lv_at hl 0 rfl) ?_
  refine lv_iload hx hb dL_law_426 (lv_at hl 4 rfl) ?_
  refine lv_iconst (v := 1) hx hb dL_law_428 (by decide) ?_
  refine lv_iadd hx hb dL_law_429 ?_
  refine va_sld hx hb hX hbl hbA hN.2.2 hi1 dL_law_430 ?_
  refine rr_callV (As := [.int (xs (nI (5 * t) + 1).toNatClampNeg)]) C hN 29 (by omega) rfl rfl rfl M4 lc_X4_step rfl rfl rfl 1 (by decide +kernel) ⟨Nat.le_of_ble_eq_true rfl, Nat.le_of_ble_eq_true rfl⟩ rfl hl.1 rfl (Nat.le_of_ble_eq_true rfl) hfl dL_law_431 (fun H locs hN => ?_)
  refine lv_aload_n hx hb dL_law_434 rfl (lv_at hl 2 rfl) ?_
  refine lv_aload_n hx hb dL_law_435 rfl (lv_at hl 0 rfl) ?_
  refine lv_iload hx hb dL_law_436 (lv_at hl 4 rfl) ?_
  refine lv_iconst (v := 1) hx hb dL_law_438 (by decide) ?_
  refine lv_iadd hx hb dL_law_439 ?_
  refine va_sld hx hb hX hbl hbA hN.2.2 hi1 dL_law_440 ?_
  refine rr_callV (As := [.int (xs (nI (5 * t) + 1).toNatClampNeg)]) C hN 0 (by omega) rfl rfl rfl M5 lc_X5_step rfl rfl rfl 1 (by decide +kernel) ⟨Nat.le_of_ble_eq_true rfl, Nat.le_of_ble_eq_true rfl⟩ rfl hl.1 rfl (Nat.le_of_ble_eq_true rfl) hfl dL_law_441 (fun H locs hN => ?_)
  refine lv_icmp_eq (tgt := 703) hx hb dL_law_444 (by decide) (fun _ => ?_) (fun c9 => absurd rfl c9)
  refine W.widen (k := 40 + 10 * (t + 1)) (n := 22000 + 1200 * (t + 1)) (by omega) (by omega) ?_
  exact K n B u2 f ls H locs ⟨⟨P', hR2⟩, hN, hl, rfl, rfl⟩
set_option maxHeartbeats 4000000 in
set_option maxRecDepth 100000 in
theorem lz_8 (F : lf_F D ca cG l p s m b L xs meth c t) (I : lf_I D ca cG s b x0 m0 ao (5 * t) n B u f ls H locs) (K : lf_K D ca cG l p e s m below meth c b x0 m0 ao t) : W p l e room_1 s m #[Value.ref b] below meth c H locs (40 + 10 * t) (22000 + 1200 * t) (lw_Z below #[Value.ref b] s) (F0 m 449 ls []) := by
  obtain ⟨C, hKG, tX, ⟨ho0, ho1⟩, hX, hbl, hL, ht, hst⟩ := F
  obtain ⟨⟨P, hR⟩, hN, hl, rfl, rfl⟩ := I
  have hbA : ¬ (fun q : Nat => s.heap.size ≤ q) b := Nat.not_le.mpr hbl
  have hx := C.1.1
  have hb := C.1.2.1
  have hfit := lf_fit ht hL
  have hfl : 40 + 10 * t ≤ room_1.cells ∧ 22000 + 1200 * t ≤ room_1.slots := ⟨by omega, by omega⟩
  have hi1 : vp_in (nI (5 * t) + 1) L := lf_in (k := 1) rfl (by omega) hL
  have hi2 : vp_in (nI (5 * t) + 2) L := lf_in (k := 2) rfl (by omega) hL
  have hi3 : vp_in (nI (5 * t) + 3) L := lf_in (k := 3) rfl (by omega) hL
  have hi4 : vp_in (nI (5 * t) + 4) L := lf_in (k := 4) rfl (by omega) hL
  obtain ⟨r, u1, u2, P', M4, M5, hR2⟩ := lo_cut l (D := D) (ca := ca) (B := B) (X := ld_X ao cG f) hR 
  refine lv_aload_n hx hb dL_law_449 rfl (lv_at hl 1 rfl) ?_
  refine rr_callV (As := []) C hN 29 (by omega) rfl rfl rfl M4 lc_X4_cut rfl rfl rfl 0 (by decide +kernel) ⟨Nat.le_of_ble_eq_true rfl, Nat.le_of_ble_eq_true rfl⟩ rfl hl.1 rfl (Nat.le_of_ble_eq_true rfl) hfl dL_law_450 (fun H locs hN => ?_)
  refine lv_aload_n hx hb dL_law_453 rfl (lv_at hl 2 rfl) ?_
  refine rr_callV (As := []) C hN 0 (by omega) rfl rfl rfl M5 lc_X5_cut rfl rfl rfl 0 (by decide +kernel) ⟨Nat.le_of_ble_eq_true rfl, Nat.le_of_ble_eq_true rfl⟩ rfl hl.1 rfl (Nat.le_of_ble_eq_true rfl) hfl dL_law_454 (fun H locs hN => ?_)
  refine lv_icmp_eq (tgt := 703) hx hb dL_law_457 (by decide) (fun _ => ?_) (fun c9 => absurd rfl c9)
  refine W.widen (k := 40 + 10 * (t + 1)) (n := 22000 + 1200 * (t + 1)) (by omega) (by omega) ?_
  exact K n B u2 f ls H locs ⟨⟨P', hR2⟩, hN, hl, rfl, rfl⟩
set_option maxHeartbeats 4000000 in
set_option maxRecDepth 100000 in
theorem lz_9 (F : lf_F D ca cG l p s m b L xs meth c t) (I : lf_I D ca cG s b x0 m0 ao (5 * t) n B u f ls H locs) (K : lf_K D ca cG l p e s m below meth c b x0 m0 ao t) : W p l e room_1 s m #[Value.ref b] below meth c H locs (40 + 10 * t) (22000 + 1200 * t) (lw_Z below #[Value.ref b] s) (F0 m 462 ls []) := by
  obtain ⟨C, hKG, tX, ⟨ho0, ho1⟩, hX, hbl, hL, ht, hst⟩ := F
  obtain ⟨⟨P, hR⟩, hN, hl, rfl, rfl⟩ := I
  have hbA : ¬ (fun q : Nat => s.heap.size ≤ q) b := Nat.not_le.mpr hbl
  have hx := C.1.1
  have hb := C.1.2.1
  have hfit := lf_fit ht hL
  have hfl : 40 + 10 * t ≤ room_1.cells ∧ 22000 + 1200 * t ≤ room_1.slots := ⟨by omega, by omega⟩
  have hi1 : vp_in (nI (5 * t) + 1) L := lf_in (k := 1) rfl (by omega) hL
  have hi2 : vp_in (nI (5 * t) + 2) L := lf_in (k := 2) rfl (by omega) hL
  have hi3 : vp_in (nI (5 * t) + 3) L := lf_in (k := 3) rfl (by omega) hL
  have hi4 : vp_in (nI (5 * t) + 4) L := lf_in (k := 4) rfl (by omega) hL
  obtain ⟨r, u1, u2, P', M4, M5, hR2⟩ := lo_boot l (D := D) (ca := ca) (B := B) (X := ld_X ao cG f) hR (xs (nI (5 * t) + 1).toNatClampNeg)
  refine lv_aload_n hx hb dL_law_462 rfl (lv_at hl 1 rfl) ?_
  refine lv_aload_n hx hb dL_law_463 rfl (lv_at hl 0 rfl) ?_
  refine lv_iload hx hb dL_law_464 (lv_at hl 4 rfl) ?_
  refine lv_iconst (v := 1) hx hb dL_law_466 (by decide) ?_
  refine lv_iadd hx hb dL_law_467 ?_
  refine va_sld hx hb hX hbl hbA hN.2.2 hi1 dL_law_468 ?_
  refine rr_callV (As := [.int (xs (nI (5 * t) + 1).toNatClampNeg)]) C hN 29 (by omega) rfl rfl rfl M4 lc_X4_boot rfl rfl rfl 1 (by decide +kernel) ⟨Nat.le_of_ble_eq_true rfl, Nat.le_of_ble_eq_true rfl⟩ rfl hl.1 rfl (Nat.le_of_ble_eq_true rfl) hfl dL_law_469 (fun H locs hN => ?_)
  refine lv_aload_n hx hb dL_law_472 rfl (lv_at hl 2 rfl) ?_
  refine lv_aload_n hx hb dL_law_473 rfl (lv_at hl 0 rfl) ?_
  refine lv_iload hx hb dL_law_474 (lv_at hl 4 rfl) ?_
  refine lv_iconst (v := 1) hx hb dL_law_476 (by decide) ?_
  refine lv_iadd hx hb dL_law_477 ?_
  refine va_sld hx hb hX hbl hbA hN.2.2 hi1 dL_law_478 ?_
  refine rr_callV (As := [.int (xs (nI (5 * t) + 1).toNatClampNeg)]) C hN 0 (by omega) rfl rfl rfl M5 lc_X5_boot rfl rfl rfl 1 (by decide +kernel) ⟨Nat.le_of_ble_eq_true rfl, Nat.le_of_ble_eq_true rfl⟩ rfl hl.1 rfl (Nat.le_of_ble_eq_true rfl) hfl dL_law_479 (fun H locs hN => ?_)
  refine lv_icmp_eq (tgt := 703) hx hb dL_law_482 (by decide) (fun _ => ?_) (fun c9 => absurd rfl c9)
  refine W.widen (k := 40 + 10 * (t + 1)) (n := 22000 + 1200 * (t + 1)) (by omega) (by omega) ?_
  exact K n B u2 f ls H locs ⟨⟨P', hR2⟩, hN, hl, rfl, rfl⟩
set_option maxHeartbeats 4000000 in
set_option maxRecDepth 100000 in
theorem lz_11 (F : lf_F D ca cG l p s m b L xs meth c t) (I : lf_I D ca cG s b x0 m0 ao (5 * t) n B u f ls H locs) (K : lf_K D ca cG l p e s m below meth c b x0 m0 ao t) : W p l e room_1 s m #[Value.ref b] below meth c H locs (40 + 10 * t) (22000 + 1200 * t) (lw_Z below #[Value.ref b] s) (F0 m 599 ls []) := by
  obtain ⟨C, hKG, tX, ⟨ho0, ho1⟩, hX, hbl, hL, ht, hst⟩ := F
  obtain ⟨⟨P, hR⟩, hN, hl, rfl, rfl⟩ := I
  have hbA : ¬ (fun q : Nat => s.heap.size ≤ q) b := Nat.not_le.mpr hbl
  have hx := C.1.1
  have hb := C.1.2.1
  have hfit := lf_fit ht hL
  have hfl : 40 + 10 * t ≤ room_1.cells ∧ 22000 + 1200 * t ≤ room_1.slots := ⟨by omega, by omega⟩
  have hi1 : vp_in (nI (5 * t) + 1) L := lf_in (k := 1) rfl (by omega) hL
  have hi2 : vp_in (nI (5 * t) + 2) L := lf_in (k := 2) rfl (by omega) hL
  have hi3 : vp_in (nI (5 * t) + 3) L := lf_in (k := 3) rfl (by omega) hL
  have hi4 : vp_in (nI (5 * t) + 4) L := lf_in (k := 4) rfl (by omega) hL
  obtain ⟨r, u1, u2, P', M4, M5, hR2⟩ := lo_joint l (D := D) (ca := ca) (B := B) (X := ld_X ao cG f) hR 
  refine lv_aload_n hx hb dL_law_599 rfl (lv_at hl 1 rfl) ?_
  refine rr_callV (As := []) C hN 29 (by omega) rfl rfl rfl M4 lc_X4_joint rfl rfl rfl 0 (by decide +kernel) ⟨Nat.le_of_ble_eq_true rfl, Nat.le_of_ble_eq_true rfl⟩ rfl hl.1 rfl (Nat.le_of_ble_eq_true rfl) hfl dL_law_600 (fun H locs hN => ?_)
  refine lv_aload_n hx hb dL_law_603 rfl (lv_at hl 2 rfl) ?_
  refine rr_callV (As := []) C hN 0 (by omega) rfl rfl rfl M5 lc_X5_joint rfl rfl rfl 0 (by decide +kernel) ⟨Nat.le_of_ble_eq_true rfl, Nat.le_of_ble_eq_true rfl⟩ rfl hl.1 rfl (Nat.le_of_ble_eq_true rfl) hfl dL_law_604 (fun H locs hN => ?_)
  refine lv_icmp_eq (tgt := 703) hx hb dL_law_607 (by decide) (fun _ => ?_) (fun c9 => absurd rfl c9)
  refine W.widen (k := 40 + 10 * (t + 1)) (n := 22000 + 1200 * (t + 1)) (by omega) (by omega) ?_
  exact K n B u2 f ls H locs ⟨⟨P', hR2⟩, hN, hl, rfl, rfl⟩
set_option maxHeartbeats 4000000 in
set_option maxRecDepth 100000 in
theorem lz_12 (F : lf_F D ca cG l p s m b L xs meth c t) (I : lf_I D ca cG s b x0 m0 ao (5 * t) n B u f ls H locs) (K : lf_K D ca cG l p e s m below meth c b x0 m0 ao t) : W p l e room_1 s m #[Value.ref b] below meth c H locs (40 + 10 * t) (22000 + 1200 * t) (lw_Z below #[Value.ref b] s) (F0 m 612 ls []) := by
  obtain ⟨C, hKG, tX, ⟨ho0, ho1⟩, hX, hbl, hL, ht, hst⟩ := F
  obtain ⟨⟨P, hR⟩, hN, hl, rfl, rfl⟩ := I
  have hbA : ¬ (fun q : Nat => s.heap.size ≤ q) b := Nat.not_le.mpr hbl
  have hx := C.1.1
  have hb := C.1.2.1
  have hfit := lf_fit ht hL
  have hfl : 40 + 10 * t ≤ room_1.cells ∧ 22000 + 1200 * t ≤ room_1.slots := ⟨by omega, by omega⟩
  have hi1 : vp_in (nI (5 * t) + 1) L := lf_in (k := 1) rfl (by omega) hL
  have hi2 : vp_in (nI (5 * t) + 2) L := lf_in (k := 2) rfl (by omega) hL
  have hi3 : vp_in (nI (5 * t) + 3) L := lf_in (k := 3) rfl (by omega) hL
  have hi4 : vp_in (nI (5 * t) + 4) L := lf_in (k := 4) rfl (by omega) hL
  obtain ⟨r, u1, u2, P', M4, M5, hR2⟩ := lo_rollback l (D := D) (ca := ca) (B := B) (X := ld_X ao cG f) hR 
  refine lv_aload_n hx hb dL_law_612 rfl (lv_at hl 1 rfl) ?_
  refine rr_callV (As := []) C hN 29 (by omega) rfl rfl rfl M4 lc_X4_rollback rfl rfl rfl 0 (by decide +kernel) ⟨Nat.le_of_ble_eq_true rfl, Nat.le_of_ble_eq_true rfl⟩ rfl hl.1 rfl (Nat.le_of_ble_eq_true rfl) hfl dL_law_613 (fun H locs hN => ?_)
  refine lv_aload_n hx hb dL_law_616 rfl (lv_at hl 2 rfl) ?_
  refine rr_callV (As := []) C hN 0 (by omega) rfl rfl rfl M5 lc_X5_rollback rfl rfl rfl 0 (by decide +kernel) ⟨Nat.le_of_ble_eq_true rfl, Nat.le_of_ble_eq_true rfl⟩ rfl hl.1 rfl (Nat.le_of_ble_eq_true rfl) hfl dL_law_617 (fun H locs hN => ?_)
  refine lv_icmp_eq (tgt := 703) hx hb dL_law_620 (by decide) (fun _ => ?_) (fun c9 => absurd rfl c9)
  refine W.widen (k := 40 + 10 * (t + 1)) (n := 22000 + 1200 * (t + 1)) (by omega) (by omega) ?_
  exact K n B u2 f ls H locs ⟨⟨P', hR2⟩, hN, hl, rfl, rfl⟩
set_option maxHeartbeats 4000000 in
set_option maxRecDepth 100000 in
theorem lz_13 (F : lf_F D ca cG l p s m b L xs meth c t) (I : lf_I D ca cG s b x0 m0 ao (5 * t) n B u f ls H locs) (K : lf_K D ca cG l p e s m below meth c b x0 m0 ao t) : W p l e room_1 s m #[Value.ref b] below meth c H locs (40 + 10 * t) (22000 + 1200 * t) (lw_Z below #[Value.ref b] s) (F0 m 625 ls []) := by
  obtain ⟨C, hKG, tX, ⟨ho0, ho1⟩, hX, hbl, hL, ht, hst⟩ := F
  obtain ⟨⟨P, hR⟩, hN, hl, rfl, rfl⟩ := I
  have hbA : ¬ (fun q : Nat => s.heap.size ≤ q) b := Nat.not_le.mpr hbl
  have hx := C.1.1
  have hb := C.1.2.1
  have hfit := lf_fit ht hL
  have hfl : 40 + 10 * t ≤ room_1.cells ∧ 22000 + 1200 * t ≤ room_1.slots := ⟨by omega, by omega⟩
  have hi1 : vp_in (nI (5 * t) + 1) L := lf_in (k := 1) rfl (by omega) hL
  have hi2 : vp_in (nI (5 * t) + 2) L := lf_in (k := 2) rfl (by omega) hL
  have hi3 : vp_in (nI (5 * t) + 3) L := lf_in (k := 3) rfl (by omega) hL
  have hi4 : vp_in (nI (5 * t) + 4) L := lf_in (k := 4) rfl (by omega) hL
  by_cases h0 : xs (nI (5 * t) + 2).toNatClampNeg = 0
  · obtain ⟨r, u1, u2, P', M4, M5, hR2⟩ := lo_silent l (D := D) (ca := ca) (B := B) (X := ld_X ao cG f) hR (xs (nI (5 * t) + 1).toNatClampNeg) (0) (Or.inl rfl)
    refine lv_aload_n hx hb dL_law_625 rfl (lv_at hl 1 rfl) ?_
    refine lv_aload_n hx hb dL_law_626 rfl (lv_at hl 0 rfl) ?_
    refine lv_iload hx hb dL_law_627 (lv_at hl 4 rfl) ?_
    refine lv_iconst (v := 1) hx hb dL_law_629 (by decide) ?_
    refine lv_iadd hx hb dL_law_630 ?_
    refine va_sld hx hb hX hbl hbA hN.2.2 hi1 dL_law_631 ?_
    refine lv_aload_n hx hb dL_law_632 rfl (lv_at hl 0 rfl) ?_
    refine lv_iload hx hb dL_law_633 (lv_at hl 4 rfl) ?_
    refine lv_iconst (v := 2) hx hb dL_law_635 (by decide) ?_
    refine lv_iadd hx hb dL_law_636 ?_
    refine va_sld hx hb hX hbl hbA hN.2.2 hi2 dL_law_637 ?_
    refine lv_if_eq (tgt := 645) hx hb dL_law_638 (by decide) (fun _ => ?_) (fun c9 => absurd h0 c9)
    refine lv_iconst (v := 0) hx hb dL_law_645 (by decide) ?_
    refine rr_callV (As := [.int (xs (nI (5 * t) + 1).toNatClampNeg), .int (0)]) C hN 29 (by omega) rfl rfl rfl M4 lc_X4_silent rfl rfl rfl 2 (by decide +kernel) ⟨Nat.le_of_ble_eq_true rfl, Nat.le_of_ble_eq_true rfl⟩ rfl hl.1 rfl (Nat.le_of_ble_eq_true rfl) hfl dL_law_646 (fun H locs hN => ?_)
    refine lv_aload_n hx hb dL_law_649 rfl (lv_at hl 2 rfl) ?_
    refine lv_aload_n hx hb dL_law_650 rfl (lv_at hl 0 rfl) ?_
    refine lv_iload hx hb dL_law_651 (lv_at hl 4 rfl) ?_
    refine lv_iconst (v := 1) hx hb dL_law_653 (by decide) ?_
    refine lv_iadd hx hb dL_law_654 ?_
    refine va_sld hx hb hX hbl hbA hN.2.2 hi1 dL_law_655 ?_
    refine lv_aload_n hx hb dL_law_656 rfl (lv_at hl 0 rfl) ?_
    refine lv_iload hx hb dL_law_657 (lv_at hl 4 rfl) ?_
    refine lv_iconst (v := 2) hx hb dL_law_659 (by decide) ?_
    refine lv_iadd hx hb dL_law_660 ?_
    refine va_sld hx hb hX hbl hbA hN.2.2 hi2 dL_law_661 ?_
    refine lv_if_eq (tgt := 669) hx hb dL_law_662 (by decide) (fun _ => ?_) (fun c9 => absurd h0 c9)
    refine lv_iconst (v := 0) hx hb dL_law_669 (by decide) ?_
    refine rr_callV (As := [.int (xs (nI (5 * t) + 1).toNatClampNeg), .int (0)]) C hN 0 (by omega) rfl rfl rfl M5 lc_X5_silent rfl rfl rfl 2 (by decide +kernel) ⟨Nat.le_of_ble_eq_true rfl, Nat.le_of_ble_eq_true rfl⟩ rfl hl.1 rfl (Nat.le_of_ble_eq_true rfl) hfl dL_law_670 (fun H locs hN => ?_)
    refine lv_icmp_eq (tgt := 703) hx hb dL_law_673 (by decide) (fun _ => ?_) (fun c9 => absurd rfl c9)
    refine W.widen (k := 40 + 10 * (t + 1)) (n := 22000 + 1200 * (t + 1)) (by omega) (by omega) ?_
    exact K n B u2 f ls H locs ⟨⟨P', hR2⟩, hN, hl, rfl, rfl⟩
  · obtain ⟨r, u1, u2, P', M4, M5, hR2⟩ := lo_silent l (D := D) (ca := ca) (B := B) (X := ld_X ao cG f) hR (xs (nI (5 * t) + 1).toNatClampNeg) (1) (Or.inr rfl)
    refine lv_aload_n hx hb dL_law_625 rfl (lv_at hl 1 rfl) ?_
    refine lv_aload_n hx hb dL_law_626 rfl (lv_at hl 0 rfl) ?_
    refine lv_iload hx hb dL_law_627 (lv_at hl 4 rfl) ?_
    refine lv_iconst (v := 1) hx hb dL_law_629 (by decide) ?_
    refine lv_iadd hx hb dL_law_630 ?_
    refine va_sld hx hb hX hbl hbA hN.2.2 hi1 dL_law_631 ?_
    refine lv_aload_n hx hb dL_law_632 rfl (lv_at hl 0 rfl) ?_
    refine lv_iload hx hb dL_law_633 (lv_at hl 4 rfl) ?_
    refine lv_iconst (v := 2) hx hb dL_law_635 (by decide) ?_
    refine lv_iadd hx hb dL_law_636 ?_
    refine va_sld hx hb hX hbl hbA hN.2.2 hi2 dL_law_637 ?_
    refine lv_if_eq (tgt := 645) hx hb dL_law_638 (by decide) (fun c9 => absurd c9 h0) (fun _ => ?_)
    refine lv_iconst (v := 1) hx hb dL_law_641 (by decide) ?_
    refine lv_goto (tgt := 646) hx hb dL_law_642 (by decide) ?_
    refine rr_callV (As := [.int (xs (nI (5 * t) + 1).toNatClampNeg), .int (1)]) C hN 29 (by omega) rfl rfl rfl M4 lc_X4_silent rfl rfl rfl 2 (by decide +kernel) ⟨Nat.le_of_ble_eq_true rfl, Nat.le_of_ble_eq_true rfl⟩ rfl hl.1 rfl (Nat.le_of_ble_eq_true rfl) hfl dL_law_646 (fun H locs hN => ?_)
    refine lv_aload_n hx hb dL_law_649 rfl (lv_at hl 2 rfl) ?_
    refine lv_aload_n hx hb dL_law_650 rfl (lv_at hl 0 rfl) ?_
    refine lv_iload hx hb dL_law_651 (lv_at hl 4 rfl) ?_
    refine lv_iconst (v := 1) hx hb dL_law_653 (by decide) ?_
    refine lv_iadd hx hb dL_law_654 ?_
    refine va_sld hx hb hX hbl hbA hN.2.2 hi1 dL_law_655 ?_
    refine lv_aload_n hx hb dL_law_656 rfl (lv_at hl 0 rfl) ?_
    refine lv_iload hx hb dL_law_657 (lv_at hl 4 rfl) ?_
    refine lv_iconst (v := 2) hx hb dL_law_659 (by decide) ?_
    refine lv_iadd hx hb dL_law_660 ?_
    refine va_sld hx hb hX hbl hbA hN.2.2 hi2 dL_law_661 ?_
    refine lv_if_eq (tgt := 669) hx hb dL_law_662 (by decide) (fun c9 => absurd c9 h0) (fun _ => ?_)
    refine lv_iconst (v := 1) hx hb dL_law_665 (by decide) ?_
    refine lv_goto (tgt := 670) hx hb dL_law_666 (by decide) ?_
    refine rr_callV (As := [.int (xs (nI (5 * t) + 1).toNatClampNeg), .int (1)]) C hN 0 (by omega) rfl rfl rfl M5 lc_X5_silent rfl rfl rfl 2 (by decide +kernel) ⟨Nat.le_of_ble_eq_true rfl, Nat.le_of_ble_eq_true rfl⟩ rfl hl.1 rfl (Nat.le_of_ble_eq_true rfl) hfl dL_law_670 (fun H locs hN => ?_)
    refine lv_icmp_eq (tgt := 703) hx hb dL_law_673 (by decide) (fun _ => ?_) (fun c9 => absurd rfl c9)
    refine W.widen (k := 40 + 10 * (t + 1)) (n := 22000 + 1200 * (t + 1)) (by omega) (by omega) ?_
    exact K n B u2 f ls H locs ⟨⟨P', hR2⟩, hN, hl, rfl, rfl⟩
set_option maxHeartbeats 4000000 in
set_option maxRecDepth 100000 in
theorem lz_14 (F : lf_F D ca cG l p s m b L xs meth c t) (I : lf_I D ca cG s b x0 m0 ao (5 * t) n B u f ls H locs) (K : lf_K D ca cG l p e s m below meth c b x0 m0 ao t) : W p l e room_1 s m #[Value.ref b] below meth c H locs (40 + 10 * t) (22000 + 1200 * t) (lw_Z below #[Value.ref b] s) (F0 m 678 ls []) := by
  obtain ⟨C, hKG, tX, ⟨ho0, ho1⟩, hX, hbl, hL, ht, hst⟩ := F
  obtain ⟨⟨P, hR⟩, hN, hl, rfl, rfl⟩ := I
  have hbA : ¬ (fun q : Nat => s.heap.size ≤ q) b := Nat.not_le.mpr hbl
  have hx := C.1.1
  have hb := C.1.2.1
  have hfit := lf_fit ht hL
  have hfl : 40 + 10 * t ≤ room_1.cells ∧ 22000 + 1200 * t ≤ room_1.slots := ⟨by omega, by omega⟩
  have hi1 : vp_in (nI (5 * t) + 1) L := lf_in (k := 1) rfl (by omega) hL
  have hi2 : vp_in (nI (5 * t) + 2) L := lf_in (k := 2) rfl (by omega) hL
  have hi3 : vp_in (nI (5 * t) + 3) L := lf_in (k := 3) rfl (by omega) hL
  have hi4 : vp_in (nI (5 * t) + 4) L := lf_in (k := 4) rfl (by omega) hL
  obtain ⟨r, u1, u2, P', M4, M5, hR2⟩ := lo_counter l (D := D) (ca := ca) (B := B) (X := ld_X ao cG f) hR (xs (nI (5 * t) + 1).toNatClampNeg)
  refine lv_aload_n hx hb dL_law_678 rfl (lv_at hl 1 rfl) ?_
  refine lv_aload_n hx hb dL_law_679 rfl (lv_at hl 0 rfl) ?_
  refine lv_iload hx hb dL_law_680 (lv_at hl 4 rfl) ?_
  refine lv_iconst (v := 1) hx hb dL_law_682 (by decide) ?_
  refine lv_iadd hx hb dL_law_683 ?_
  refine va_sld hx hb hX hbl hbA hN.2.2 hi1 dL_law_684 ?_
  refine rr_callV (As := [.int (xs (nI (5 * t) + 1).toNatClampNeg)]) C hN 29 (by omega) rfl rfl rfl M4 lc_X4_counter rfl rfl rfl 1 (by decide +kernel) ⟨Nat.le_of_ble_eq_true rfl, Nat.le_of_ble_eq_true rfl⟩ rfl hl.1 rfl (Nat.le_of_ble_eq_true rfl) hfl dL_law_685 (fun H locs hN => ?_)
  refine lv_aload_n hx hb dL_law_688 rfl (lv_at hl 2 rfl) ?_
  refine lv_aload_n hx hb dL_law_689 rfl (lv_at hl 0 rfl) ?_
  refine lv_iload hx hb dL_law_690 (lv_at hl 4 rfl) ?_
  refine lv_iconst (v := 1) hx hb dL_law_692 (by decide) ?_
  refine lv_iadd hx hb dL_law_693 ?_
  refine va_sld hx hb hX hbl hbA hN.2.2 hi1 dL_law_694 ?_
  refine rr_callV (As := [.int (xs (nI (5 * t) + 1).toNatClampNeg)]) C hN 0 (by omega) rfl rfl rfl M5 lc_X5_counter rfl rfl rfl 1 (by decide +kernel) ⟨Nat.le_of_ble_eq_true rfl, Nat.le_of_ble_eq_true rfl⟩ rfl hl.1 rfl (Nat.le_of_ble_eq_true rfl) hfl dL_law_695 (fun H locs hN => ?_)
  refine lv_icmp_eq (tgt := 703) hx hb dL_law_698 (by decide) (fun _ => ?_) (fun c9 => absurd rfl c9)
  refine W.widen (k := 40 + 10 * (t + 1)) (n := 22000 + 1200 * (t + 1)) (by omega) (by omega) ?_
  exact K n B u2 f ls H locs ⟨⟨P', hR2⟩, hN, hl, rfl, rfl⟩
end LZ
