/-! the law's loop -/
section LP
variable {p : Program} {l : Launch} {e : Env} {s : State} {m : MethodId} {below : List Frame} {meth : Method} {c : Code} {D : va_G} {ca : Nat → ClassId} {cG : ClassId} {b L : Nat} {xs : Nat → Int32} {x0 m0 ao : Nat}
set_option maxHeartbeats 4000000 in
set_option maxRecDepth 100000 in
theorem lz_loop (hC : ww_C D ca RL code 7 lw_tbl ret (fun q => s.heap.size ≤ q) p s m #[Value.ref b] meth c) (hKG : va_K D ww_cl (ww_ty ca ++ [(cG, .long)]) s) (tX : tt_X (fun q => s.heap.size ≤ q) s s.heap) (ho : va_AO RX0 s ∧ va_AO RX1 s) (hX : va_X b L xs s s.heap) (hbl : b < s.heap.size) (hL : L ≤ 2560) (hst : l.stackTraces = false) :
    ∀ (d t n : Nat) (B : Nat → Nat) (u : ww_U) (f : Nat → Int64) (ls : Array Slot) (H : Heap) (locs : List Loc), L ≤ 5 * t + d → t ≤ 512 → lf_I D ca cG s b x0 m0 ao (5 * t) n B u f ls H locs →
      W p l e room_1 s m #[Value.ref b] below meth c H locs (40 + 10 * t) (22000 + 1200 * t) (lw_Z below #[Value.ref b] s) (F0 m 23 ls []) := by
  intro d
  induction d with
  | zero =>
    intro t n B u f ls H locs hd ht I
    have I0 := I
    obtain ⟨_, hN, hl, _, _⟩ := I0
    have hbA : ¬ (fun q : Nat => s.heap.size ≤ q) b := Nat.not_le.mpr hbl
    have hx := hC.1.1
    have hb := hC.1.2.1
    refine lv_iload hx hb dL_law_23 (lv_at hl 4 rfl) ?_
    refine lv_aload_n hx hb dL_law_25 rfl (lv_at hl 0 rfl) ?_
    refine va_slen hx hb hX hbl hbA hN.2.2 dL_law_26 ?_
    refine lv_iconst (v := 5) hx hb dL_law_27 (by decide) ?_
    refine lv_isub hx hb dL_law_28 ?_
    refine lv_icmp_gt (tgt := 709) hx hb dL_law_29 (by decide) (fun _ => ?_) (fun c9 => absurd ?_ c9)
    · refine lv_iconst (v := 1) hx hb dL_law_709 (by decide) ?_
      refine va_forget hN.2.2.2.2 ?_
      refine W.widen (k := 603072) (n := 7198826) (by omega) (by omega) ?_
      exact lw_ret hx hb hC.2.1 hC.2.2.1 dL_law_710
    · rw [Int32.lt_iff_toInt_lt]
      have e1 := pk_sub_toInt (a := L) (b := 5) (by omega) (by omega)
      have e2 : (nI (5 * t)).toInt = ((5 * t : Nat) : Int) := nI_toInt (by omega)
      have e3 : (Int32.ofNat L - 5).toInt = (nI L - nI 5).toInt := rfl
      omega
  | succ d ih =>
    intro t n B u f ls H locs hd ht I
    have I0 := I
    obtain ⟨_, hN, hl, _, _⟩ := I0
    have hbA : ¬ (fun q : Nat => s.heap.size ≤ q) b := Nat.not_le.mpr hbl
    have hx := hC.1.1
    have hb := hC.1.2.1
    refine lv_iload hx hb dL_law_23 (lv_at hl 4 rfl) ?_
    refine lv_aload_n hx hb dL_law_25 rfl (lv_at hl 0 rfl) ?_
    refine va_slen hx hb hX hbl hbA hN.2.2 dL_law_26 ?_
    refine lv_iconst (v := 5) hx hb dL_law_27 (by decide) ?_
    refine lv_isub hx hb dL_law_28 ?_
    refine lv_icmp_gt (tgt := 709) hx hb dL_law_29 (by decide) (fun _ => ?_) (fun c9 => ?_)
    · refine lv_iconst (v := 1) hx hb dL_law_709 (by decide) ?_
      refine va_forget hN.2.2.2.2 ?_
      refine W.widen (k := 603072) (n := 7198826) (by omega) (by omega) ?_
      exact lw_ret hx hb hC.2.1 hC.2.2.1 dL_law_710
    · have ht5 : 5 * t + 5 ≤ L := by
        rw [Int32.lt_iff_toInt_lt] at c9
        have e1 := pk_sub_toInt (a := L) (b := 5) (by omega) (by omega)
        have e2 : (nI (5 * t)).toInt = ((5 * t : Nat) : Int) := nI_toInt (by omega)
        have e3 : (Int32.ofNat L - 5).toInt = (nI L - nI 5).toInt := rfl
        omega
      have F : lf_F D ca cG l p s m b L xs meth c t := ⟨hC, hKG, tX, ho, hX, hbl, hL, ht5, hst⟩
      have K : lf_K D ca cG l p e s m below meth c b x0 m0 ao t := by
        intro n B u f ls H locs J
        obtain ⟨hR, hN, hl, h1, h2⟩ := J
        have e5 : nI (5 * t) + Int32.ofInt 5 = nI (5 * (t + 1)) := (nI_add (5 * t) 5).trans (congrArg nI (by omega))
        refine lv_iinc (v := nI (5 * (t + 1))) (lv' := [(4, .int (nI (5 * (t + 1)))), (0, .ref b), (1, .ref x0), (2, .ref m0), (3, .ref ao)]) hx hb dL_law_703 hl (k := 4) rfl e5 (by decide) rfl (fun ls hl => ?_)
        refine lv_goto (tgt := 23) hx hb dL_law_706 (by decide) ?_
        exact ih (t + 1) n B u f ls H locs (by omega) (by omega) ⟨hR, hN, lv_sub hl [1, 2, 3, 4, 0] rfl, h1, h2⟩
      have hi0 : vp_in (nI (5 * t)) L := nI_in (by omega) (by omega)
      refine lv_aload_n hx hb dL_law_32 rfl (lv_at hl 0 rfl) ?_
      refine lv_iload hx hb dL_law_33 (lv_at hl 4 rfl) ?_
      refine va_sld hx hb hX hbl hbA hN.2.2 hi0 dL_law_35 ?_
      refine lv_bipush (v := 15) hx hb dL_law_36 (by decide) ?_
      refine lv_iand hx hb dL_law_38 ?_
      obtain ⟨k, hk, ek⟩ := pk_andE (xs (nI (5 * t)).toNatClampNeg) (m := 15) 4 (by decide)
      rw [ek]
      have hk : k < 16 := hk
      clear ek
      match k, hk with
      | 0, _ => exact lv_tableIn (off := 73) (tgt := 112) hx hb dL_law_39 (by decide) (by decide) (by decide) (by decide) (lz_0 F I K)
      | 1, _ => exact lv_tableIn (off := 98) (tgt := 137) hx hb dL_law_39 (by decide) (by decide) (by decide) (by decide) (lz_1 F I K)
      | 2, _ => exact lv_tableIn (off := 123) (tgt := 162) hx hb dL_law_39 (by decide) (by decide) (by decide) (by decide) (lz_2 F I K)
      | 3, _ => exact lv_tableIn (off := 188) (tgt := 227) hx hb dL_law_39 (by decide) (by decide) (by decide) (by decide) (lz_3 F I K)
      | 4, _ => exact lv_tableIn (off := 244) (tgt := 283) hx hb dL_law_39 (by decide) (by decide) (by decide) (by decide) (lz_4 F I K)
      | 5, _ => exact lv_tableIn (off := 281) (tgt := 320) hx hb dL_law_39 (by decide) (by decide) (by decide) (by decide) (lz_5 F I K)
      | 6, _ => exact lv_tableIn (off := 332) (tgt := 371) hx hb dL_law_39 (by decide) (by decide) (by decide) (by decide) (lz_6 F I K)
      | 7, _ => exact lv_tableIn (off := 385) (tgt := 424) hx hb dL_law_39 (by decide) (by decide) (by decide) (by decide) (lz_7 F I K)
      | 8, _ => exact lv_tableIn (off := 410) (tgt := 449) hx hb dL_law_39 (by decide) (by decide) (by decide) (by decide) (lz_8 F I K)
      | 9, _ => exact lv_tableIn (off := 423) (tgt := 462) hx hb dL_law_39 (by decide) (by decide) (by decide) (by decide) (lz_9 F I K)
      | 10, _ => exact lv_tableIn (off := 448) (tgt := 487) hx hb dL_law_39 (by decide) (by decide) (by decide) (by decide) (lz_10 F I K)
      | 11, _ => exact lv_tableIn (off := 560) (tgt := 599) hx hb dL_law_39 (by decide) (by decide) (by decide) (by decide) (lz_11 F I K)
      | 12, _ => exact lv_tableIn (off := 573) (tgt := 612) hx hb dL_law_39 (by decide) (by decide) (by decide) (by decide) (lz_12 F I K)
      | 13, _ => exact lv_tableIn (off := 586) (tgt := 625) hx hb dL_law_39 (by decide) (by decide) (by decide) (by decide) (lz_13 F I K)
      | 14, _ => exact lv_tableIn (off := 639) (tgt := 678) hx hb dL_law_39 (by decide) (by decide) (by decide) (by decide) (lz_14 F I K)
      | 15, _ => exact lv_tableOut (tgt := 703) hx hb dL_law_39 (Or.inr (by decide)) (by decide) (W.widen (k := 40 + 10 * (t + 1)) (n := 22000 + 1200 * (t + 1)) (by omega) (by omega) (K n B u f ls H locs I))
      | k + 16, hk => omega
end LP
