set_option maxRecDepth 20000 in
theorem kw_X5_allIn_X5 : ww_K wsX5_allIn RX5 TX5 36 tyX5 := ⟨by decide +kernel, tyX5_ok, nmX5⟩
set_option maxHeartbeats 4000000 in
set_option maxRecDepth 100000 in
theorem lp_X5_allIn {p : Program} {l : Launch} {e : Env} {s : State} {m : MethodId} {args : Array Value} {below : List Frame} {meth : Method} {c : Code} {D : va_G} {ca : Nat → ClassId} {B : Nat → Nat} {N n : Nat} {X : va_W} (C : ww_C D ca yX5_allIn.cls cX5_allIn 5 wsX5_allIn (some .boolean) (ww_A B N X s.heap.size) p s m args meth c) (hNN : 29 ≤ N) {P : Nat} (hP60 : P ≤ 60) (a w : Int32)  {r : Option Value} {u' : ww_U} : ∀ (d k : Nat) (q : Int32) (x : Int32) (u : ww_U), k + d = P + 1 → (u 0 12 = nI P) → (x = nI k) → (1 ≤ k) → (mo_of u) → (q = 0 ∨ q = 1) → r = some (.int (mo_all d k a w u q)) → u' = u → ∀ (H : Heap) (locs : List Loc) (ls : Array Slot), ww_N D ca B N n u X (ww_A B N X s.heap.size) s.heap H locs → lv_has ls 5 [(0, .ref (B 0)), (1, .int a), (2, .int w), (3, .int q), (4, .int x)] → W p l e (headSpec wsX5_allIn ({ frames := 1, cells := 0, slots := 0, locals := 21 } : Room)).room s m args below meth c H locs 0 0 (MQ below (ww_Q D ca B N n X s.heap.size r u') args s 0 0 (ww_A B N X s.heap.size)) (F0 m 5 ls []) := by
  have hx := C.1.1
  have hb := C.1.2.1
  intro d
  induction d with
  | zero =>
    intro k q x u hkd hpk hxk hk1 hof hq01 hr hu H locs ls hN hl
    refine lv_iload hx hb dX5_allIn_5 (lv_at hl 4 rfl) ?_
    refine lv_aload_n hx hb dX5_allIn_7 rfl (lv_at hl 0 rfl) ?_
    refine rr_get C hN 0 (Nat.lt_of_lt_of_le (by decide) hNN) rfl rfl kw_X5_allIn_X5 12 (by decide) (List.mem_of_getElem? (i := 1) rfl) (v := .int (u 0 12)) rfl dX5_allIn_8 ?_
    refine lv_icmp_gt (tgt := 71) hx hb dX5_allIn_11 (by decide) (fun c_11 => ?_) (fun c_11 => absurd c_11 (fun h => h (by rw [hpk, hxk, show k = P + 1 by omega]; exact nI_lt (by omega) (by omega))))
    refine lv_iload_n hx hb dX5_allIn_71 rfl (lv_at hl 3 rfl) ?_
    exact rr_zret C hN dX5_allIn_72 (by rcases hq01 with rfl | rfl <;> rfl) hr hu
  | succ d ih =>
    intro k q x u hkd hpk hxk hk1 hof hq01 hr hu H locs ls hN hl
    refine lv_iload hx hb dX5_allIn_5 (lv_at hl 4 rfl) ?_
    refine lv_aload_n hx hb dX5_allIn_7 rfl (lv_at hl 0 rfl) ?_
    refine rr_get C hN 0 (Nat.lt_of_lt_of_le (by decide) hNN) rfl rfl kw_X5_allIn_X5 12 (by decide) (List.mem_of_getElem? (i := 1) rfl) (v := .int (u 0 12)) rfl dX5_allIn_8 ?_
    refine lv_icmp_gt (tgt := 71) hx hb dX5_allIn_11 (by decide) (fun c_11 => absurd c_11 (by rw [hpk, hxk]; exact nI_nlt (by omega) (by omega))) (fun c_11 => ?_)
    refine lv_iload_n hx hb dX5_allIn_14 rfl (lv_at hl 3 rfl) ?_
    refine lv_if_eq (tgt := 63) hx hb dX5_allIn_15 (by decide) (fun c_15 => ?_) (fun c_15 => ?_)
    · refine lv_iconst (v := 0) hx hb dX5_allIn_63 (by decide) ?_
      refine lv_istore_n (lv' := [(3, .int 0), (0, .ref (B 0)), (1, .int a), (2, .int w), (4, .int x)]) hx hb dX5_allIn_64 rfl hl (by decide) rfl (fun ls hl => ?_)
      obtain ⟨vs1, evs1⟩ : ∃ y9 : Int32, y9 = x + 1 := ⟨_, rfl⟩
      refine lv_iinc (v := vs1) (lv' := [(4, .int vs1), (3, .int 0), (0, .ref (B 0)), (1, .int a), (2, .int w)]) hx hb dX5_allIn_65 hl (k := 4) rfl (by rw [evs1]; rfl) (by decide) rfl (fun ls hl => ?_)
      refine lv_goto (tgt := 5) hx hb dX5_allIn_68 (by decide) ?_
      exact ih (k + 1) 0 vs1 u (by omega) hpk (by rw [evs1, hxk]; exact nI_1 k) (by omega) hof (Or.inl rfl) (hr.trans (congrArg (fun z => some (Value.int (mo_all d (k + 1) a w u z))) (by subst_vars; unfold mo_a1; (repeat' split) <;> first | rfl | contradiction | simp_all))) hu H locs ls hN (lv_sub hl [2, 3, 4, 1, 0] rfl)
    · refine lv_aload_n hx hb dX5_allIn_18 rfl (lv_at hl 0 rfl) ?_
      refine rr_get C hN 0 (Nat.lt_of_lt_of_le (by decide) hNN) rfl rfl kw_X5_allIn_X5 19 (by decide) (List.mem_of_getElem? (i := 2) rfl) (v := .ref (B 17)) rfl dX5_allIn_19 ?_
      refine lv_iload hx hb dX5_allIn_22 (lv_at hl 4 rfl) ?_
      refine rr_iald C hN 17 (Nat.lt_of_lt_of_le (by decide) hNN) rfl (by decide) k (by omega) hxk dX5_allIn_24 ?_
      refine lv_iload_n hx hb dX5_allIn_25 rfl (lv_at hl 1 rfl) ?_
      refine lv_icmp_ne (tgt := 59) hx hb dX5_allIn_26 (by decide) (fun c_26 => ?_) (fun c_26 => ?_)
      · refine lv_iconst (v := 1) hx hb dX5_allIn_59 (by decide) ?_
        refine lv_goto (tgt := 64) hx hb dX5_allIn_60 (by decide) ?_
        refine lv_istore_n (lv' := [(3, .int 1), (0, .ref (B 0)), (1, .int a), (2, .int w), (4, .int x)]) hx hb dX5_allIn_64 rfl hl (by decide) rfl (fun ls hl => ?_)
        obtain ⟨vs2, evs2⟩ : ∃ y9 : Int32, y9 = x + 1 := ⟨_, rfl⟩
        refine lv_iinc (v := vs2) (lv' := [(4, .int vs2), (3, .int 1), (0, .ref (B 0)), (1, .int a), (2, .int w)]) hx hb dX5_allIn_65 hl (k := 4) rfl (by rw [evs2]; rfl) (by decide) rfl (fun ls hl => ?_)
        refine lv_goto (tgt := 5) hx hb dX5_allIn_68 (by decide) ?_
        exact ih (k + 1) 1 vs2 u (by omega) hpk (by rw [evs2, hxk]; exact nI_1 k) (by omega) hof (Or.inr rfl) (hr.trans (congrArg (fun z => some (Value.int (mo_all d (k + 1) a w u z))) (by subst_vars; unfold mo_a1; (repeat' split) <;> first | rfl | contradiction | simp_all))) hu H locs ls hN (lv_sub hl [2, 3, 4, 1, 0] rfl)
      · refine lv_aload_n hx hb dX5_allIn_29 rfl (lv_at hl 0 rfl) ?_
        refine rr_get C hN 0 (Nat.lt_of_lt_of_le (by decide) hNN) rfl rfl kw_X5_allIn_X5 16 (by decide) (List.mem_of_getElem? (i := 3) rfl) (v := .ref (B 14)) rfl dX5_allIn_30 ?_
        refine lv_iload hx hb dX5_allIn_33 (lv_at hl 4 rfl) ?_
        refine rr_iald C hN 14 (Nat.lt_of_lt_of_le (by decide) hNN) rfl (by decide) k (by omega) hxk dX5_allIn_35 ?_
        refine lv_iload_n hx hb dX5_allIn_36 rfl (lv_at hl 2 rfl) ?_
        refine lv_icmp_ne (tgt := 63) hx hb dX5_allIn_37 (by decide) (fun c_37 => ?_) (fun c_37 => ?_)
        · refine lv_iconst (v := 0) hx hb dX5_allIn_63 (by decide) ?_
          refine lv_istore_n (lv' := [(3, .int 0), (0, .ref (B 0)), (1, .int a), (2, .int w), (4, .int x)]) hx hb dX5_allIn_64 rfl hl (by decide) rfl (fun ls hl => ?_)
          obtain ⟨vs3, evs3⟩ : ∃ y9 : Int32, y9 = x + 1 := ⟨_, rfl⟩
          refine lv_iinc (v := vs3) (lv' := [(4, .int vs3), (3, .int 0), (0, .ref (B 0)), (1, .int a), (2, .int w)]) hx hb dX5_allIn_65 hl (k := 4) rfl (by rw [evs3]; rfl) (by decide) rfl (fun ls hl => ?_)
          refine lv_goto (tgt := 5) hx hb dX5_allIn_68 (by decide) ?_
          exact ih (k + 1) 0 vs3 u (by omega) hpk (by rw [evs3, hxk]; exact nI_1 k) (by omega) hof (Or.inl rfl) (hr.trans (congrArg (fun z => some (Value.int (mo_all d (k + 1) a w u z))) (by subst_vars; unfold mo_a1; (repeat' split) <;> first | rfl | contradiction | simp_all))) hu H locs ls hN (lv_sub hl [2, 3, 4, 1, 0] rfl)
        · refine lv_iload_n hx hb dX5_allIn_40 rfl (lv_at hl 2 rfl) ?_
          refine lv_iconst (v := 2) hx hb dX5_allIn_41 (by decide) ?_
          refine lv_icmp_ne (tgt := 59) hx hb dX5_allIn_42 (by decide) (fun c_42 => ?_) (fun c_42 => ?_)
          · refine lv_iconst (v := 1) hx hb dX5_allIn_59 (by decide) ?_
            refine lv_goto (tgt := 64) hx hb dX5_allIn_60 (by decide) ?_
            refine lv_istore_n (lv' := [(3, .int 1), (0, .ref (B 0)), (1, .int a), (2, .int w), (4, .int x)]) hx hb dX5_allIn_64 rfl hl (by decide) rfl (fun ls hl => ?_)
            obtain ⟨vs4, evs4⟩ : ∃ y9 : Int32, y9 = x + 1 := ⟨_, rfl⟩
            refine lv_iinc (v := vs4) (lv' := [(4, .int vs4), (3, .int 1), (0, .ref (B 0)), (1, .int a), (2, .int w)]) hx hb dX5_allIn_65 hl (k := 4) rfl (by rw [evs4]; rfl) (by decide) rfl (fun ls hl => ?_)
            refine lv_goto (tgt := 5) hx hb dX5_allIn_68 (by decide) ?_
            exact ih (k + 1) 1 vs4 u (by omega) hpk (by rw [evs4, hxk]; exact nI_1 k) (by omega) hof (Or.inr rfl) (hr.trans (congrArg (fun z => some (Value.int (mo_all d (k + 1) a w u z))) (by subst_vars; unfold mo_a1; (repeat' split) <;> first | rfl | contradiction | simp_all))) hu H locs ls hN (lv_sub hl [2, 3, 4, 1, 0] rfl)
          · refine lv_aload_n hx hb dX5_allIn_45 rfl (lv_at hl 0 rfl) ?_
            refine lv_aload_n hx hb dX5_allIn_46 rfl (lv_at hl 0 rfl) ?_
            refine rr_get C hN 0 (Nat.lt_of_lt_of_le (by decide) hNN) rfl rfl kw_X5_allIn_X5 13 (by decide) (List.mem_of_getElem? (i := 4) rfl) (v := .ref (B 11)) rfl dX5_allIn_47 ?_
            refine lv_iload hx hb dX5_allIn_50 (lv_at hl 4 rfl) ?_
            refine rr_iald C hN 11 (Nat.lt_of_lt_of_le (by decide) hNN) rfl (by decide) k (by omega) hxk dX5_allIn_52 ?_
            refine rr_callV (As := [.int (u 11 k)]) C hN 0 (Nat.lt_of_lt_of_le (by decide) hNN) rfl rfl rfl (ct_X5_there l (q := mo_rd u 11 k) (hof k (by omega)).2 (hof k (by omega)).1 hNN) gX5_allIn_X5_there rfl rfl rfl 1 (by decide +kernel) ⟨Nat.le_of_ble_eq_true rfl, Nat.le_of_ble_eq_true rfl⟩ rfl hl.1 rfl (Nat.le_of_ble_eq_true rfl) ⟨Nat.zero_le _, Nat.zero_le _⟩ dX5_allIn_53 (fun H locs hN => ?_)
            refine lv_topi (fun vs5 evs5 => ?_)
            refine lv_if_eq (tgt := 63) hx hb dX5_allIn_56 (by decide) (fun c_56 => ?_) (fun c_56 => ?_)
            · refine lv_iconst (v := 0) hx hb dX5_allIn_63 (by decide) ?_
              refine lv_istore_n (lv' := [(3, .int 0), (0, .ref (B 0)), (1, .int a), (2, .int w), (4, .int x)]) hx hb dX5_allIn_64 rfl hl (by decide) rfl (fun ls hl => ?_)
              obtain ⟨vs6, evs6⟩ : ∃ y9 : Int32, y9 = x + 1 := ⟨_, rfl⟩
              refine lv_iinc (v := vs6) (lv' := [(4, .int vs6), (3, .int 0), (0, .ref (B 0)), (1, .int a), (2, .int w)]) hx hb dX5_allIn_65 hl (k := 4) rfl (by rw [evs6]; rfl) (by decide) rfl (fun ls hl => ?_)
              refine lv_goto (tgt := 5) hx hb dX5_allIn_68 (by decide) ?_
              exact ih (k + 1) 0 vs6 u (by omega) hpk (by rw [evs6, hxk]; exact nI_1 k) (by omega) hof (Or.inl rfl) (hr.trans (congrArg (fun z => some (Value.int (mo_all d (k + 1) a w u z))) (by subst_vars; unfold mo_a1; (repeat' split) <;> first | rfl | contradiction | simp_all))) hu H locs ls hN (lv_sub hl [2, 3, 4, 1, 0] rfl)
            · refine lv_iconst (v := 1) hx hb dX5_allIn_59 (by decide) ?_
              refine lv_goto (tgt := 64) hx hb dX5_allIn_60 (by decide) ?_
              refine lv_istore_n (lv' := [(3, .int 1), (0, .ref (B 0)), (1, .int a), (2, .int w), (4, .int x)]) hx hb dX5_allIn_64 rfl hl (by decide) rfl (fun ls hl => ?_)
              obtain ⟨vs7, evs7⟩ : ∃ y9 : Int32, y9 = x + 1 := ⟨_, rfl⟩
              refine lv_iinc (v := vs7) (lv' := [(4, .int vs7), (3, .int 1), (0, .ref (B 0)), (1, .int a), (2, .int w)]) hx hb dX5_allIn_65 hl (k := 4) rfl (by rw [evs7]; rfl) (by decide) rfl (fun ls hl => ?_)
              refine lv_goto (tgt := 5) hx hb dX5_allIn_68 (by decide) ?_
              exact ih (k + 1) 1 vs7 u (by omega) hpk (by rw [evs7, hxk]; exact nI_1 k) (by omega) hof (Or.inr rfl) (hr.trans (congrArg (fun z => some (Value.int (mo_all d (k + 1) a w u z))) (by subst_vars; unfold mo_a1; (repeat' split) <;> first | rfl | contradiction | simp_all))) hu H locs ls hN (lv_sub hl [2, 3, 4, 1, 0] rfl)
set_option maxHeartbeats 4000000 in
set_option maxRecDepth 100000 in
theorem ct_X5_allIn (l : Launch) {D : va_G} {ca : Nat → ClassId} {B : Nat → Nat} {N n : Nat} {X : va_W} {u : ww_U} (a w : Int32) {P : Nat} (hP60 : P ≤ 60) (hpk : u 0 12 = nI P) (hof : mo_of u) (hNN : 29 ≤ N)  : ww_M l yX5_allIn wsX5_allIn ({ frames := 1, cells := 0, slots := 0, locals := 21 } : Room) D ca B N n X u [.ref (B 0), .int a, .int w] (some (.int (mo_all P 1 a w u 1))) u := by
  refine ww_met (cc := cX5_allIn) (maxL := 5) (ret := (some .boolean)) (by decide) rfl (Nat.le_of_ble_eq_true rfl) ?_
  intro p e s m args below meth c C hN ls hl
  have hl : lv_has ls 5 [(0, .ref (B 0)), (1, .int a), (2, .int w)] := hl
  have hx := C.1.1
  have hb := C.1.2.1
  refine lv_iconst (v := 1) hx hb dX5_allIn_0 (by decide) ?_
  refine lv_istore_n (lv' := [(3, .int 1), (0, .ref (B 0)), (1, .int a), (2, .int w)]) hx hb dX5_allIn_1 rfl hl (by decide) rfl (fun ls hl => ?_)
  refine lv_iconst (v := 1) hx hb dX5_allIn_2 (by decide) ?_
  refine lv_istore (lv' := [(4, .int 1), (3, .int 1), (0, .ref (B 0)), (1, .int a), (2, .int w)]) hx hb dX5_allIn_3 hl (by decide) rfl (fun ls hl => ?_)
  exact lp_X5_allIn C hNN hP60 a w P 1 1 1 u (by omega) hpk rfl (by omega) hof (Or.inr rfl) rfl rfl _ _ _ hN (lv_sub hl [2, 3, 4, 1, 0] rfl)
set_option maxRecDepth 20000 in
theorem kw_X5_change_X5 : ww_K wsX5_change RX5 TX5 36 tyX5 := ⟨by decide +kernel, tyX5_ok, nmX5⟩
set_option maxHeartbeats 4000000 in
set_option maxRecDepth 100000 in
theorem lp_X5_change {p : Program} {l : Launch} {e : Env} {s : State} {m : MethodId} {args : Array Value} {below : List Frame} {meth : Method} {c : Code} {D : va_G} {ca : Nat → ClassId} {B : Nat → Nat} {N n : Nat} {X : va_W} (C : ww_C D ca yX5_change.cls cX5_change 4 wsX5_change none (ww_A B N X s.heap.size) p s m args meth c) (hNN : 29 ≤ N) {P : Nat} (hP60 : P ≤ 60) (y a : Int32)  {r : Option Value} {u' : ww_U} : ∀ (d k : Nat) (x : Int32) (u : ww_U), k + d = P + 1 → (u 0 12 = nI P) → (x = nI k) → (1 ≤ k) → (mo_of u) → r = none → u' = mo_chl d k u → ∀ (H : Heap) (locs : List Loc) (ls : Array Slot), ww_N D ca B N n u X (ww_A B N X s.heap.size) s.heap H locs → lv_has ls 4 [(0, .ref (B 0)), (1, .int y), (2, .int a), (3, .int x)] → W p l e (headSpec wsX5_change ({ frames := 2, cells := 0, slots := 0, locals := 45 } : Room)).room s m args below meth c H locs 0 0 (MQ below (ww_Q D ca B N n X s.heap.size r u') args s 0 0 (ww_A B N X s.heap.size)) (F0 m 76 ls []) := by
  have hx := C.1.1
  have hb := C.1.2.1
  intro d
  induction d with
  | zero =>
    intro k x u hkd hpk hxk hk1 hof hr hu H locs ls hN hl
    refine lv_iload_n hx hb dX5_change_76 rfl (lv_at hl 3 rfl) ?_
    refine lv_aload_n hx hb dX5_change_77 rfl (lv_at hl 0 rfl) ?_
    refine rr_get C hN 0 (Nat.lt_of_lt_of_le (by decide) hNN) rfl rfl kw_X5_change_X5 12 (by decide) (List.mem_of_getElem? (i := 8) rfl) (v := .int (u 0 12)) rfl dX5_change_78 ?_
    refine lv_icmp_gt (tgt := 115) hx hb dX5_change_81 (by decide) (fun c_81 => ?_) (fun c_81 => absurd c_81 (fun h => h (by rw [hpk, hxk, show k = P + 1 by omega]; exact nI_lt (by omega) (by omega))))
    exact rr_vret C hN dX5_change_115 hr hu
  | succ d ih =>
    intro k x u hkd hpk hxk hk1 hof hr hu H locs ls hN hl
    refine lv_iload_n hx hb dX5_change_76 rfl (lv_at hl 3 rfl) ?_
    refine lv_aload_n hx hb dX5_change_77 rfl (lv_at hl 0 rfl) ?_
    refine rr_get C hN 0 (Nat.lt_of_lt_of_le (by decide) hNN) rfl rfl kw_X5_change_X5 12 (by decide) (List.mem_of_getElem? (i := 8) rfl) (v := .int (u 0 12)) rfl dX5_change_78 ?_
    refine lv_icmp_gt (tgt := 115) hx hb dX5_change_81 (by decide) (fun c_81 => absurd c_81 (by rw [hpk, hxk]; exact nI_nlt (by omega) (by omega))) (fun c_81 => ?_)
    refine lv_aload_n hx hb dX5_change_84 rfl (lv_at hl 0 rfl) ?_
    refine rr_get C hN 0 (Nat.lt_of_lt_of_le (by decide) hNN) rfl rfl kw_X5_change_X5 19 (by decide) (List.mem_of_getElem? (i := 6) rfl) (v := .ref (B 17)) rfl dX5_change_85 ?_
    refine lv_iload_n hx hb dX5_change_88 rfl (lv_at hl 3 rfl) ?_
    refine rr_iald C hN 17 (Nat.lt_of_lt_of_le (by decide) hNN) rfl (by decide) k (by omega) hxk dX5_change_89 ?_
    refine lv_aload_n hx hb dX5_change_90 rfl (lv_at hl 0 rfl) ?_
    refine rr_get C hN 0 (Nat.lt_of_lt_of_le (by decide) hNN) rfl rfl kw_X5_change_X5 28 (by decide) (List.mem_of_getElem? (i := 7) rfl) (v := .int (u 0 28)) rfl dX5_change_91 ?_
    refine lv_icmp_ne (tgt := 109) hx hb dX5_change_94 (by decide) (fun c_94 => ?_) (fun c_94 => ?_)
    · obtain ⟨vs1, evs1⟩ : ∃ y9 : Int32, y9 = x + 1 := ⟨_, rfl⟩
      refine lv_iinc (v := vs1) (lv' := [(3, .int vs1), (0, .ref (B 0)), (1, .int y), (2, .int a)]) hx hb dX5_change_109 hl (k := 3) rfl (by rw [evs1]; rfl) (by decide) rfl (fun ls hl => ?_)
      refine lv_goto (tgt := 76) hx hb dX5_change_112 (by decide) ?_
      exact ih (k + 1) vs1 u (by omega) hpk (by rw [evs1, hxk]; exact nI_1 k) (by omega) hof hr (hu.trans (by simp only [mo_chl]; rw [if_neg c_94])) H locs ls hN (lv_sub hl [1, 2, 3, 0] rfl)
    · refine lv_aload_n hx hb dX5_change_97 rfl (lv_at hl 0 rfl) ?_
      refine rr_get C hN 0 (Nat.lt_of_lt_of_le (by decide) hNN) rfl rfl kw_X5_change_X5 5 (by decide) (List.mem_of_getElem? (i := 1) rfl) (v := .ref (B 4)) rfl dX5_change_98 ?_
      refine lv_aload_n hx hb dX5_change_101 rfl (lv_at hl 0 rfl) ?_
      refine rr_get C hN 0 (Nat.lt_of_lt_of_le (by decide) hNN) rfl rfl kw_X5_change_X5 13 (by decide) (List.mem_of_getElem? (i := 9) rfl) (v := .ref (B 11)) rfl dX5_change_102 ?_
      refine lv_iload_n hx hb dX5_change_105 rfl (lv_at hl 3 rfl) ?_
      refine rr_iald C hN 11 (Nat.lt_of_lt_of_le (by decide) hNN) rfl (by decide) k (by omega) hxk dX5_change_106 ?_
      refine lv_iconst (v := 0) hx hb dX5_change_107 (by decide) ?_
      refine rr_iast C hN 4 (Nat.lt_of_lt_of_le (by decide) hNN) (fun _ => rfl) (by decide) (mo_rd u 11 k) (Nat.lt_succ_of_le (hof k (by omega)).2) (hof k (by omega)).1 dX5_change_108 (fun us2 eus2 H locs hN => ?_)
      obtain ⟨vs3, evs3⟩ : ∃ y9 : Int32, y9 = x + 1 := ⟨_, rfl⟩
      refine lv_iinc (v := vs3) (lv' := [(3, .int vs3), (0, .ref (B 0)), (1, .int y), (2, .int a)]) hx hb dX5_change_109 hl (k := 3) rfl (by rw [evs3]; rfl) (by decide) rfl (fun ls hl => ?_)
      refine lv_goto (tgt := 76) hx hb dX5_change_112 (by decide) ?_
      exact ih (k + 1) vs3 us2 (by omega) (by rw [eus2]; exact hpk) (by rw [evs3, hxk]; exact nI_1 k) (by omega) (by rw [eus2]; exact hof) hr (hu.trans (by simp only [mo_chl]; (first | rw [if_pos c_94] | rw [if_neg c_94]); try rw [eus2])) H locs ls hN (lv_sub hl [1, 2, 3, 0] rfl)
set_option maxHeartbeats 4000000 in
set_option maxRecDepth 100000 in
theorem ct_X5_change (l : Launch) {D : va_G} {ca : Nat → ClassId} {B : Nat → Nat} {N n : Nat} {X : va_W} {u : ww_U} {x : Int32} {q : Nat} (hq8 : q ≤ 8) (hxq : x = nI q) {P : Nat} (hP60 : P ≤ 60) (hpk : u 0 12 = nI P) (hof : mo_of u) (hop : okn (u 4 q) 60) (hru : okn (u 2 q) 1) (hNN : 29 ≤ N)  : ww_M l yX5_change wsX5_change ({ frames := 2, cells := 0, slots := 0, locals := 45 } : Room) D ca B N n X u [.ref (B 0), .int x] none (mo_change P u q (mo_rd u 4 q)) := by
  refine ww_met (cc := cX5_change) (maxL := 4) (ret := none) (by decide) rfl (Nat.le_of_ble_eq_true rfl) ?_
  intro p e s m args below meth c C hN ls hl
  have hl : lv_has ls 4 [(0, .ref (B 0)), (1, .int x)] := hl
  have hx := C.1.1
  have hb := C.1.2.1
  refine lv_aload_n hx hb dX5_change_0 rfl (lv_at hl 0 rfl) ?_
  refine rr_get C hN 0 (Nat.lt_of_lt_of_le (by decide) hNN) rfl rfl kw_X5_change_X5 5 (by decide) (List.mem_of_getElem? (i := 1) rfl) (v := .ref (B 4)) rfl dX5_change_1 ?_
  refine lv_iload_n hx hb dX5_change_4 rfl (lv_at hl 1 rfl) ?_
  refine rr_iald C hN 4 (Nat.lt_of_lt_of_le (by decide) hNN) rfl (by decide) q (by omega) hxq dX5_change_5 ?_
  refine lv_istore_n (lv' := [(2, .int (u 4 q)), (0, .ref (B 0)), (1, .int x)]) hx hb dX5_change_6 rfl hl (by decide) rfl (fun ls hl => ?_)
  refine lv_aload_n hx hb dX5_change_7 rfl (lv_at hl 1 rfl) ?_
  refine rr_get C hN 0 (Nat.lt_of_lt_of_le (by decide) hNN) rfl rfl kw_X5_change_X5 3 (by decide) (List.mem_of_getElem? (i := 2) rfl) (v := .ref (B 2)) rfl dX5_change_8 ?_
  refine lv_iload_n hx hb dX5_change_11 rfl (lv_at hl 2 rfl) ?_
  refine lv_iconst (v := 1) hx hb dX5_change_12 (by decide) ?_
  refine lv_aload_n hx hb dX5_change_13 rfl (lv_at hl 1 rfl) ?_
  refine rr_get C hN 0 (Nat.lt_of_lt_of_le (by decide) hNN) rfl rfl kw_X5_change_X5 3 (by decide) (List.mem_of_getElem? (i := 2) rfl) (v := .ref (B 2)) rfl dX5_change_14 ?_
  refine lv_iload_n hx hb dX5_change_17 rfl (lv_at hl 2 rfl) ?_
  refine rr_iald C hN 2 (Nat.lt_of_lt_of_le (by decide) hNN) rfl (by decide) q (by omega) hxq dX5_change_18 ?_
  refine lv_isub hx hb dX5_change_19 ?_
  refine lv_topi (fun v1 ev1 => ?_)
  refine rr_iast C hN 2 (Nat.lt_of_lt_of_le (by decide) hNN) (fun _ => rfl) (by decide) q (by omega) hxq dX5_change_20 (fun u2 eu2 H locs hN => ?_)
  refine lv_aload_n hx hb dX5_change_21 rfl (lv_at hl 1 rfl) ?_
  refine rr_get C hN 0 (Nat.lt_of_lt_of_le (by decide) hNN) rfl rfl kw_X5_change_X5 4 (by decide) (List.mem_of_getElem? (i := 3) rfl) (v := .ref (B 3)) rfl dX5_change_22 ?_
  refine lv_iload_n hx hb dX5_change_25 rfl (lv_at hl 2 rfl) ?_
  refine lv_aload_n hx hb dX5_change_26 rfl (lv_at hl 1 rfl) ?_
  refine rr_get C hN 0 (Nat.lt_of_lt_of_le (by decide) hNN) rfl rfl kw_X5_change_X5 10 (by decide) (List.mem_of_getElem? (i := 4) rfl) (v := .ref (B 9)) rfl dX5_change_27 ?_
  refine lv_iconst (v := 2) hx hb dX5_change_30 (by decide) ?_
  refine lv_iload_n hx hb dX5_change_31 rfl (lv_at hl 2 rfl) ?_
  refine lv_imul hx hb dX5_change_32 ?_
  refine lv_topi (fun v3 ev3 => ?_)
  refine lv_aload_n hx hb dX5_change_33 rfl (lv_at hl 1 rfl) ?_
  refine rr_get C hN 0 (Nat.lt_of_lt_of_le (by decide) hNN) rfl rfl kw_X5_change_X5 3 (by decide) (List.mem_of_getElem? (i := 2) rfl) (v := .ref (B 2)) rfl dX5_change_34 ?_
  refine lv_iload_n hx hb dX5_change_37 rfl (lv_at hl 2 rfl) ?_
  refine rr_iald C hN 2 (Nat.lt_of_lt_of_le (by decide) hNN) rfl (by decide) q (by omega) hxq dX5_change_38 ?_
  refine lv_iadd hx hb dX5_change_39 ?_
  refine lv_topi (fun v4 ev4 => ?_)
  refine rr_iald C hN 9 (Nat.lt_of_lt_of_le (by decide) hNN) rfl (by decide) (2 * q + (1 - mo_rd u 2 q)) (by have := hru.2; show 2 * q + (1 - mo_rd u 2 q) < 18; omega) (by rw [ev4, ev3, hxq, eu2, ww_up_self, ev1, (okn_flip hru).2]; exact (congrArg (fun z : Int32 => z + nI (1 - mo_rd u 2 q)) (pk_mul 2 q)).trans (nI_add _ _)) dX5_change_40 ?_
  refine rr_iast C hN 3 (Nat.lt_of_lt_of_le (by decide) hNN) (fun _ => rfl) (by decide) q (by omega) hxq dX5_change_41 (fun u5 eu5 H locs hN => ?_)
  refine lv_aload_n hx hb dX5_change_42 rfl (lv_at hl 1 rfl) ?_
  refine rr_get C hN 0 (Nat.lt_of_lt_of_le (by decide) hNN) rfl rfl kw_X5_change_X5 16 (by decide) (List.mem_of_getElem? (i := 5) rfl) (v := .ref (B 14)) rfl dX5_change_43 ?_
  refine lv_iload_n hx hb dX5_change_46 rfl (lv_at hl 0 rfl) ?_
  refine lv_iconst (v := 3) hx hb dX5_change_47 (by decide) ?_
  refine rr_iast C hN 14 (Nat.lt_of_lt_of_le (by decide) hNN) (fun _ => rfl) (by decide) (mo_rd u 4 q) (Nat.lt_succ_of_le hop.2) hop.1 dX5_change_48 (fun u6 eu6 H locs hN => ?_)
  have hU3 : u6 = ww_up (mo_sw u q) 14 (mo_rd u 4 q) 3 := by rw [eu6, eu5, eu2, ev1]; rfl
  refine lv_aload_n hx hb dX5_change_49 rfl (lv_at hl 1 rfl) ?_
  refine lv_aload_n hx hb dX5_change_50 rfl (lv_at hl 1 rfl) ?_
  refine rr_get C hN 0 (Nat.lt_of_lt_of_le (by decide) hNN) rfl rfl kw_X5_change_X5 19 (by decide) (List.mem_of_getElem? (i := 6) rfl) (v := .ref (B 17)) rfl dX5_change_51 ?_
  refine lv_iload_n hx hb dX5_change_54 rfl (lv_at hl 0 rfl) ?_
  refine rr_iald C hN 17 (Nat.lt_of_lt_of_le (by decide) hNN) rfl (by decide) (mo_rd u 4 q) (Nat.lt_succ_of_le hop.2) hop.1 dX5_change_55 ?_
  refine lv_iconst (v := 3) hx hb dX5_change_56 (by decide) ?_
  refine rr_callV (As := [.int (u6 17 (mo_rd u 4 q)), .int 3]) C hN 0 (Nat.lt_of_lt_of_le (by decide) hNN) rfl rfl rfl (ct_X5_allIn l (u6 17 (mo_rd u 4 q)) 3 hP60 (by rw [hU3]; exact hpk) (by rw [hU3]; exact hof) hNN) gX5_change_X5_allIn rfl rfl rfl 2 (by decide +kernel) ⟨Nat.le_of_ble_eq_true rfl, Nat.le_of_ble_eq_true rfl⟩ rfl hl.1 rfl (Nat.le_of_ble_eq_true rfl) ⟨Nat.zero_le _, Nat.zero_le _⟩ dX5_change_57 (fun H locs hN => ?_)
  refine lv_topi (fun v7 ev7 => ?_)
  refine lv_if_ne (tgt := 64) hx hb dX5_change_60 (by decide) (fun c_60 => ?_) (fun c_60 => ?_)
  · refine lv_aload_n hx hb dX5_change_64 rfl (lv_at hl 1 rfl) ?_
    refine lv_aload_n hx hb dX5_change_65 rfl (lv_at hl 1 rfl) ?_
    refine rr_get C hN 0 (Nat.lt_of_lt_of_le (by decide) hNN) rfl rfl kw_X5_change_X5 19 (by decide) (List.mem_of_getElem? (i := 6) rfl) (v := .ref (B 17)) rfl dX5_change_66 ?_
    refine lv_iload_n hx hb dX5_change_69 rfl (lv_at hl 0 rfl) ?_
    refine rr_iald C hN 17 (Nat.lt_of_lt_of_le (by decide) hNN) rfl (by decide) (mo_rd u 4 q) (Nat.lt_succ_of_le hop.2) hop.1 dX5_change_70 ?_
    refine rr_put C hN 0 (Nat.lt_of_lt_of_le (by decide) hNN) rfl rfl kw_X5_change_X5 28 (by decide) (List.mem_of_getElem? (i := 7) rfl) rfl (x := (u6 17 (mo_rd u 4 q))) rfl rfl (Nat.le_of_ble_eq_true rfl) ((Eq.refl _).trans rfl) dX5_change_71 (fun u8 eu8 H locs hN => ?_)
    refine lv_iconst (v := 1) hx hb dX5_change_74 (by decide) ?_
    refine lv_istore_n (lv' := [(3, .int 1), (2, .int (u 4 q)), (0, .ref (B 0)), (1, .int x)]) hx hb dX5_change_75 rfl hl (by decide) rfl (fun ls hl => ?_)
    exact lp_X5_change C hNN hP60 x _ P 1 1 u8 (by omega) (by rw [eu8, hU3]; exact hpk) rfl (by omega) (by rw [eu8, hU3]; exact hof) rfl (by unfold mo_change; rw [if_neg (by have h9 := c_60; rw [ev7, hU3] at h9; exact h9), eu8, hU3]; rfl) _ _ _ hN (lv_sub hl [2, 3, 1, 0] rfl)
  · exact rr_vret C hN dX5_change_63 rfl (by unfold mo_change; rw [if_pos (by have h9 := c_60; rw [ev7, hU3] at h9; exact h9)]; exact hU3.symm)
set_option maxRecDepth 20000 in
theorem kw_X5_cut_X5 : ww_K wsX5_cut RX5 TX5 36 tyX5 := ⟨by decide +kernel, tyX5_ok, nmX5⟩
set_option maxHeartbeats 4000000 in
set_option maxRecDepth 100000 in
theorem lp_X5_cut {p : Program} {l : Launch} {e : Env} {s : State} {m : MethodId} {args : Array Value} {below : List Frame} {meth : Method} {c : Code} {D : va_G} {ca : Nat → ClassId} {B : Nat → Nat} {N n : Nat} {X : va_W} (C : ww_C D ca yX5_cut.cls cX5_cut 3 wsX5_cut (some .int) (ww_A B N X s.heap.size) p s m args meth c) (hNN : 29 ≤ N) {n0 : Nat} (hn08 : n0 ≤ 8)  {r : Option Value} {u' : ww_U} : ∀ (d k : Nat) (q : Int32) (x : Int32) (u : ww_U), k + d = n0 + 1 → (u 0 1 = nI n0) → (x = nI k) → (1 ≤ k) → (mo_opn u) → r = some (.int (mo_cut d k u q).2) → u' = (mo_cut d k u q).1 → ∀ (H : Heap) (locs : List Loc) (ls : Array Slot), ww_N D ca B N n u X (ww_A B N X s.heap.size) s.heap H locs → lv_has ls 3 [(0, .ref (B 0)), (1, .int q), (2, .int x)] → W p l e (headSpec wsX5_cut ({ frames := 1, cells := 0, slots := 0, locals := 21 } : Room)).room s m args below meth c H locs 0 0 (MQ below (ww_Q D ca B N n X s.heap.size r u') args s 0 0 (ww_A B N X s.heap.size)) (F0 m 9 ls []) := by
  have hx := C.1.1
  have hb := C.1.2.1
  intro d
  induction d with
  | zero =>
    intro k q x u hkd hpk hxk hk1 hopn hr hu H locs ls hN hl
    refine lv_iload_n hx hb dX5_cut_9 rfl (lv_at hl 2 rfl) ?_
    refine lv_aload_n hx hb dX5_cut_10 rfl (lv_at hl 0 rfl) ?_
    refine rr_get C hN 0 (Nat.lt_of_lt_of_le (by decide) hNN) rfl rfl kw_X5_cut_X5 1 (by decide) (List.mem_of_getElem? (i := 2) rfl) (v := .int (u 0 1)) rfl dX5_cut_11 ?_
    refine lv_icmp_gt (tgt := 85) hx hb dX5_cut_14 (by decide) (fun c_14 => ?_) (fun c_14 => absurd c_14 (fun h => h (by rw [hpk, hxk, show k = n0 + 1 by omega]; exact nI_lt (by omega) (by omega))))
    refine lv_iload_n hx hb dX5_cut_85 rfl (lv_at hl 1 rfl) ?_
    exact rr_iret C hN dX5_cut_86 hr hu
  | succ d ih =>
    intro k q x u hkd hpk hxk hk1 hopn hr hu H locs ls hN hl
    refine lv_iload_n hx hb dX5_cut_9 rfl (lv_at hl 2 rfl) ?_
    refine lv_aload_n hx hb dX5_cut_10 rfl (lv_at hl 0 rfl) ?_
    refine rr_get C hN 0 (Nat.lt_of_lt_of_le (by decide) hNN) rfl rfl kw_X5_cut_X5 1 (by decide) (List.mem_of_getElem? (i := 2) rfl) (v := .int (u 0 1)) rfl dX5_cut_11 ?_
    refine lv_icmp_gt (tgt := 85) hx hb dX5_cut_14 (by decide) (fun c_14 => absurd c_14 (by rw [hpk, hxk]; exact nI_nlt (by omega) (by omega))) (fun c_14 => ?_)
    refine lv_aload_n hx hb dX5_cut_17 rfl (lv_at hl 0 rfl) ?_
    refine rr_get C hN 0 (Nat.lt_of_lt_of_le (by decide) hNN) rfl rfl kw_X5_cut_X5 6 (by decide) (List.mem_of_getElem? (i := 3) rfl) (v := .ref (B 5)) rfl dX5_cut_18 ?_
    refine lv_iload_n hx hb dX5_cut_21 rfl (lv_at hl 2 rfl) ?_
    refine rr_zald C hN 5 (Nat.lt_of_lt_of_le (by decide) hNN) rfl (by decide) k (by omega) hxk dX5_cut_22 ?_
    refine lv_if_eq (tgt := 30) hx hb dX5_cut_23 (by decide) (fun c_23 => ?_) (fun c_23 => ?_)
    · refine lv_iload_n hx hb dX5_cut_30 rfl (lv_at hl 1 rfl) ?_
      refine lv_iconst (v := 1) hx hb dX5_cut_31 (by decide) ?_
      refine lv_iadd hx hb dX5_cut_32 ?_
      refine lv_topi (fun vs1 evs1 => ?_)
      refine lv_istore_n (lv' := [(1, .int vs1), (0, .ref (B 0)), (2, .int x)]) hx hb dX5_cut_33 rfl hl (by decide) rfl (fun ls hl => ?_)
      refine lv_aload_n hx hb dX5_cut_34 rfl (lv_at hl 1 rfl) ?_
      refine rr_get C hN 0 (Nat.lt_of_lt_of_le (by decide) hNN) rfl rfl kw_X5_cut_X5 6 (by decide) (List.mem_of_getElem? (i := 3) rfl) (v := .ref (B 5)) rfl dX5_cut_35 ?_
      refine lv_iload_n hx hb dX5_cut_38 rfl (lv_at hl 2 rfl) ?_
      refine lv_iconst (v := 1) hx hb dX5_cut_39 (by decide) ?_
      refine rr_zast C hN 5 (Nat.lt_of_lt_of_le (by decide) hNN) (fun _ => rfl) (by decide) k (by omega) hxk dX5_cut_40 (fun us2 eus2 H locs hN => ?_)
      refine lv_aload_n hx hb dX5_cut_41 rfl (lv_at hl 1 rfl) ?_
      refine lv_iload_n hx hb dX5_cut_42 rfl (lv_at hl 2 rfl) ?_
      refine rr_callV (As := [.int x]) C hN 0 (Nat.lt_of_lt_of_le (by decide) hNN) rfl rfl rfl (ct_X5_stateOf l (q := k) (by omega) hxk hNN (by rw [eus2]; exact hopn k (by omega))) gX5_cut_X5_stateOf rfl rfl rfl 1 (by decide +kernel) ⟨Nat.le_of_ble_eq_true rfl, Nat.le_of_ble_eq_true rfl⟩ rfl hl.1 rfl (Nat.le_of_ble_eq_true rfl) ⟨Nat.zero_le _, Nat.zero_le _⟩ dX5_cut_43 (fun H locs hN => ?_)
      refine lv_topi (fun vs3 evs3 => ?_)
      refine lv_iconst (v := 1) hx hb dX5_cut_46 (by decide) ?_
      refine lv_icmp_ne (tgt := 79) hx hb dX5_cut_47 (by decide) (fun c_47 => ?_) (fun c_47 => ?_)
      · rw [evs3] at c_47
        obtain ⟨vs4, evs4⟩ : ∃ y9 : Int32, y9 = x + 1 := ⟨_, rfl⟩
        refine lv_iinc (v := vs4) (lv' := [(2, .int vs4), (1, .int vs1), (0, .ref (B 0))]) hx hb dX5_cut_79 hl (k := 2) rfl (by rw [evs4]; rfl) (by decide) rfl (fun ls hl => ?_)
        refine lv_goto (tgt := 9) hx hb dX5_cut_82 (by decide) ?_
        exact ih (k + 1) vs1 vs4 us2 (by omega) (by subst_vars; exact hpk) (by rw [evs4, hxk]; exact nI_1 k) (by omega) (by subst_vars; exact hopn) (hr.trans (by subst_vars; simp only [mo_cut, mo_cl]; first | (rw [if_pos (show mo_st (ww_up u 5 k 1) k = 1 from c_47), if_neg (show ¬ u 15 (mo_rd u 4 k) ≤ 0 from c_61)]; (first | rw [if_pos c_23] | rw [if_neg c_23]); rfl) | rfl | ((repeat' split) <;> first | rfl | contradiction | simp_all))) (hu.trans (by subst_vars; simp only [mo_cut, mo_cl]; first | (rw [if_pos (show mo_st (ww_up u 5 k 1) k = 1 from c_47), if_neg (show ¬ u 15 (mo_rd u 4 k) ≤ 0 from c_61)]; (first | rw [if_pos c_23] | rw [if_neg c_23]); rfl) | rfl | ((repeat' split) <;> first | rfl | contradiction | simp_all))) H locs ls hN (lv_sub hl [2, 1, 0] rfl)
      · rw [evs3] at c_47
        refine lv_aload_n hx hb dX5_cut_50 rfl (lv_at hl 1 rfl) ?_
        refine rr_get C hN 0 (Nat.lt_of_lt_of_le (by decide) hNN) rfl rfl kw_X5_cut_X5 17 (by decide) (List.mem_of_getElem? (i := 4) rfl) (v := .ref (B 15)) rfl dX5_cut_51 ?_
        refine lv_aload_n hx hb dX5_cut_54 rfl (lv_at hl 1 rfl) ?_
        refine rr_get C hN 0 (Nat.lt_of_lt_of_le (by decide) hNN) rfl rfl kw_X5_cut_X5 5 (by decide) (List.mem_of_getElem? (i := 5) rfl) (v := .ref (B 4)) rfl dX5_cut_55 ?_
        refine lv_iload_n hx hb dX5_cut_58 rfl (lv_at hl 2 rfl) ?_
        refine rr_iald C hN 4 (Nat.lt_of_lt_of_le (by decide) hNN) rfl (by decide) k (by omega) hxk dX5_cut_59 ?_
        refine rr_iald C hN 15 (Nat.lt_of_lt_of_le (by decide) hNN) rfl (by decide) (mo_rd u 4 k) (Nat.lt_succ_of_le (hopn k (by omega)).2) (by rw [eus2]; exact (hopn k (by omega)).1) dX5_cut_60 ?_
        refine lv_if_le (tgt := 79) hx hb dX5_cut_61 (by decide) (fun c_61 => ?_) (fun c_61 => ?_)
        · obtain ⟨vs5, evs5⟩ : ∃ y9 : Int32, y9 = x + 1 := ⟨_, rfl⟩
          refine lv_iinc (v := vs5) (lv' := [(2, .int vs5), (1, .int vs1), (0, .ref (B 0))]) hx hb dX5_cut_79 hl (k := 2) rfl (by rw [evs5]; rfl) (by decide) rfl (fun ls hl => ?_)
          refine lv_goto (tgt := 9) hx hb dX5_cut_82 (by decide) ?_
          exact ih (k + 1) vs1 vs5 us2 (by omega) (by subst_vars; exact hpk) (by rw [evs5, hxk]; exact nI_1 k) (by omega) (by subst_vars; exact hopn) (hr.trans (by subst_vars; simp only [mo_cut, mo_cl]; first | (rw [if_pos (show mo_st (ww_up u 5 k 1) k = 1 from c_47), if_neg (show ¬ u 15 (mo_rd u 4 k) ≤ 0 from c_61)]; (first | rw [if_pos c_23] | rw [if_neg c_23]); rfl) | rfl | ((repeat' split) <;> first | rfl | contradiction | simp_all))) (hu.trans (by subst_vars; simp only [mo_cut, mo_cl]; first | (rw [if_pos (show mo_st (ww_up u 5 k 1) k = 1 from c_47), if_neg (show ¬ u 15 (mo_rd u 4 k) ≤ 0 from c_61)]; (first | rw [if_pos c_23] | rw [if_neg c_23]); rfl) | rfl | ((repeat' split) <;> first | rfl | contradiction | simp_all))) H locs ls hN (lv_sub hl [2, 1, 0] rfl)
        · refine lv_aload_n hx hb dX5_cut_64 rfl (lv_at hl 1 rfl) ?_
          refine rr_get C hN 0 (Nat.lt_of_lt_of_le (by decide) hNN) rfl rfl kw_X5_cut_X5 17 (by decide) (List.mem_of_getElem? (i := 4) rfl) (v := .ref (B 15)) rfl dX5_cut_65 ?_
          refine lv_aload_n hx hb dX5_cut_68 rfl (lv_at hl 1 rfl) ?_
          refine rr_get C hN 0 (Nat.lt_of_lt_of_le (by decide) hNN) rfl rfl kw_X5_cut_X5 5 (by decide) (List.mem_of_getElem? (i := 5) rfl) (v := .ref (B 4)) rfl dX5_cut_69 ?_
          refine lv_iload_n hx hb dX5_cut_72 rfl (lv_at hl 2 rfl) ?_
          refine rr_iald C hN 4 (Nat.lt_of_lt_of_le (by decide) hNN) rfl (by decide) k (by omega) hxk dX5_cut_73 ?_
          refine lv_dup2_11 hx hb dX5_cut_74 rfl rfl ?_
          refine rr_iald C hN 15 (Nat.lt_of_lt_of_le (by decide) hNN) rfl (by decide) (mo_rd u 4 k) (Nat.lt_succ_of_le (hopn k (by omega)).2) (by rw [eus2]; exact (hopn k (by omega)).1) dX5_cut_75 ?_
          refine lv_iconst (v := 1) hx hb dX5_cut_76 (by decide) ?_
          refine lv_isub hx hb dX5_cut_77 ?_
          refine lv_topi (fun vs6 evs6 => ?_)
          refine rr_iast C hN 15 (Nat.lt_of_lt_of_le (by decide) hNN) (fun _ => rfl) (by decide) (mo_rd u 4 k) (Nat.lt_succ_of_le (hopn k (by omega)).2) (by rw [eus2]; exact (hopn k (by omega)).1) dX5_cut_78 (fun us7 eus7 H locs hN => ?_)
          obtain ⟨vs8, evs8⟩ : ∃ y9 : Int32, y9 = x + 1 := ⟨_, rfl⟩
          refine lv_iinc (v := vs8) (lv' := [(2, .int vs8), (1, .int vs1), (0, .ref (B 0))]) hx hb dX5_cut_79 hl (k := 2) rfl (by rw [evs8]; rfl) (by decide) rfl (fun ls hl => ?_)
          refine lv_goto (tgt := 9) hx hb dX5_cut_82 (by decide) ?_
          exact ih (k + 1) vs1 vs8 us7 (by omega) (by subst_vars; exact hpk) (by rw [evs8, hxk]; exact nI_1 k) (by omega) (by subst_vars; exact hopn) (hr.trans (by subst_vars; simp only [mo_cut, mo_cl]; first | (rw [if_pos (show mo_st (ww_up u 5 k 1) k = 1 from c_47), if_neg (show ¬ u 15 (mo_rd u 4 k) ≤ 0 from c_61)]; (first | rw [if_pos c_23] | rw [if_neg c_23]); rfl) | rfl | ((repeat' split) <;> first | rfl | contradiction | simp_all))) (hu.trans (by subst_vars; simp only [mo_cut, mo_cl]; first | (rw [if_pos (show mo_st (ww_up u 5 k 1) k = 1 from c_47), if_neg (show ¬ u 15 (mo_rd u 4 k) ≤ 0 from c_61)]; (first | rw [if_pos c_23] | rw [if_neg c_23]); rfl) | rfl | ((repeat' split) <;> first | rfl | contradiction | simp_all))) H locs ls hN (lv_sub hl [2, 1, 0] rfl)
    · refine lv_iload_n hx hb dX5_cut_26 rfl (lv_at hl 1 rfl) ?_
      refine lv_goto (tgt := 33) hx hb dX5_cut_27 (by decide) ?_
      refine lv_istore_n (lv' := [(1, .int q), (0, .ref (B 0)), (2, .int x)]) hx hb dX5_cut_33 rfl hl (by decide) rfl (fun ls hl => ?_)
      refine lv_aload_n hx hb dX5_cut_34 rfl (lv_at hl 1 rfl) ?_
      refine rr_get C hN 0 (Nat.lt_of_lt_of_le (by decide) hNN) rfl rfl kw_X5_cut_X5 6 (by decide) (List.mem_of_getElem? (i := 3) rfl) (v := .ref (B 5)) rfl dX5_cut_35 ?_
      refine lv_iload_n hx hb dX5_cut_38 rfl (lv_at hl 2 rfl) ?_
      refine lv_iconst (v := 1) hx hb dX5_cut_39 (by decide) ?_
      refine rr_zast C hN 5 (Nat.lt_of_lt_of_le (by decide) hNN) (fun _ => rfl) (by decide) k (by omega) hxk dX5_cut_40 (fun us9 eus9 H locs hN => ?_)
      refine lv_aload_n hx hb dX5_cut_41 rfl (lv_at hl 1 rfl) ?_
      refine lv_iload_n hx hb dX5_cut_42 rfl (lv_at hl 2 rfl) ?_
      refine rr_callV (As := [.int x]) C hN 0 (Nat.lt_of_lt_of_le (by decide) hNN) rfl rfl rfl (ct_X5_stateOf l (q := k) (by omega) hxk hNN (by rw [eus9]; exact hopn k (by omega))) gX5_cut_X5_stateOf rfl rfl rfl 1 (by decide +kernel) ⟨Nat.le_of_ble_eq_true rfl, Nat.le_of_ble_eq_true rfl⟩ rfl hl.1 rfl (Nat.le_of_ble_eq_true rfl) ⟨Nat.zero_le _, Nat.zero_le _⟩ dX5_cut_43 (fun H locs hN => ?_)
      refine lv_topi (fun vs10 evs10 => ?_)
      refine lv_iconst (v := 1) hx hb dX5_cut_46 (by decide) ?_
      refine lv_icmp_ne (tgt := 79) hx hb dX5_cut_47 (by decide) (fun c_47 => ?_) (fun c_47 => ?_)
      · rw [evs10] at c_47
        obtain ⟨vs11, evs11⟩ : ∃ y9 : Int32, y9 = x + 1 := ⟨_, rfl⟩
        refine lv_iinc (v := vs11) (lv' := [(2, .int vs11), (1, .int q), (0, .ref (B 0))]) hx hb dX5_cut_79 hl (k := 2) rfl (by rw [evs11]; rfl) (by decide) rfl (fun ls hl => ?_)
        refine lv_goto (tgt := 9) hx hb dX5_cut_82 (by decide) ?_
        exact ih (k + 1) q vs11 us9 (by omega) (by subst_vars; exact hpk) (by rw [evs11, hxk]; exact nI_1 k) (by omega) (by subst_vars; exact hopn) (hr.trans (by subst_vars; simp only [mo_cut, mo_cl]; first | (rw [if_pos (show mo_st (ww_up u 5 k 1) k = 1 from c_47), if_neg (show ¬ u 15 (mo_rd u 4 k) ≤ 0 from c_61)]; (first | rw [if_pos c_23] | rw [if_neg c_23]); rfl) | rfl | ((repeat' split) <;> first | rfl | contradiction | simp_all))) (hu.trans (by subst_vars; simp only [mo_cut, mo_cl]; first | (rw [if_pos (show mo_st (ww_up u 5 k 1) k = 1 from c_47), if_neg (show ¬ u 15 (mo_rd u 4 k) ≤ 0 from c_61)]; (first | rw [if_pos c_23] | rw [if_neg c_23]); rfl) | rfl | ((repeat' split) <;> first | rfl | contradiction | simp_all))) H locs ls hN (lv_sub hl [2, 1, 0] rfl)
      · rw [evs10] at c_47
        refine lv_aload_n hx hb dX5_cut_50 rfl (lv_at hl 1 rfl) ?_
        refine rr_get C hN 0 (Nat.lt_of_lt_of_le (by decide) hNN) rfl rfl kw_X5_cut_X5 17 (by decide) (List.mem_of_getElem? (i := 4) rfl) (v := .ref (B 15)) rfl dX5_cut_51 ?_
        refine lv_aload_n hx hb dX5_cut_54 rfl (lv_at hl 1 rfl) ?_
        refine rr_get C hN 0 (Nat.lt_of_lt_of_le (by decide) hNN) rfl rfl kw_X5_cut_X5 5 (by decide) (List.mem_of_getElem? (i := 5) rfl) (v := .ref (B 4)) rfl dX5_cut_55 ?_
        refine lv_iload_n hx hb dX5_cut_58 rfl (lv_at hl 2 rfl) ?_
        refine rr_iald C hN 4 (Nat.lt_of_lt_of_le (by decide) hNN) rfl (by decide) k (by omega) hxk dX5_cut_59 ?_
        refine rr_iald C hN 15 (Nat.lt_of_lt_of_le (by decide) hNN) rfl (by decide) (mo_rd u 4 k) (Nat.lt_succ_of_le (hopn k (by omega)).2) (by rw [eus9]; exact (hopn k (by omega)).1) dX5_cut_60 ?_
        refine lv_if_le (tgt := 79) hx hb dX5_cut_61 (by decide) (fun c_61 => ?_) (fun c_61 => ?_)
        · obtain ⟨vs12, evs12⟩ : ∃ y9 : Int32, y9 = x + 1 := ⟨_, rfl⟩
          refine lv_iinc (v := vs12) (lv' := [(2, .int vs12), (1, .int q), (0, .ref (B 0))]) hx hb dX5_cut_79 hl (k := 2) rfl (by rw [evs12]; rfl) (by decide) rfl (fun ls hl => ?_)
          refine lv_goto (tgt := 9) hx hb dX5_cut_82 (by decide) ?_
          exact ih (k + 1) q vs12 us9 (by omega) (by subst_vars; exact hpk) (by rw [evs12, hxk]; exact nI_1 k) (by omega) (by subst_vars; exact hopn) (hr.trans (by subst_vars; simp only [mo_cut, mo_cl]; first | (rw [if_pos (show mo_st (ww_up u 5 k 1) k = 1 from c_47), if_neg (show ¬ u 15 (mo_rd u 4 k) ≤ 0 from c_61)]; (first | rw [if_pos c_23] | rw [if_neg c_23]); rfl) | rfl | ((repeat' split) <;> first | rfl | contradiction | simp_all))) (hu.trans (by subst_vars; simp only [mo_cut, mo_cl]; first | (rw [if_pos (show mo_st (ww_up u 5 k 1) k = 1 from c_47), if_neg (show ¬ u 15 (mo_rd u 4 k) ≤ 0 from c_61)]; (first | rw [if_pos c_23] | rw [if_neg c_23]); rfl) | rfl | ((repeat' split) <;> first | rfl | contradiction | simp_all))) H locs ls hN (lv_sub hl [2, 1, 0] rfl)
        · refine lv_aload_n hx hb dX5_cut_64 rfl (lv_at hl 1 rfl) ?_
          refine rr_get C hN 0 (Nat.lt_of_lt_of_le (by decide) hNN) rfl rfl kw_X5_cut_X5 17 (by decide) (List.mem_of_getElem? (i := 4) rfl) (v := .ref (B 15)) rfl dX5_cut_65 ?_
          refine lv_aload_n hx hb dX5_cut_68 rfl (lv_at hl 1 rfl) ?_
          refine rr_get C hN 0 (Nat.lt_of_lt_of_le (by decide) hNN) rfl rfl kw_X5_cut_X5 5 (by decide) (List.mem_of_getElem? (i := 5) rfl) (v := .ref (B 4)) rfl dX5_cut_69 ?_
          refine lv_iload_n hx hb dX5_cut_72 rfl (lv_at hl 2 rfl) ?_
          refine rr_iald C hN 4 (Nat.lt_of_lt_of_le (by decide) hNN) rfl (by decide) k (by omega) hxk dX5_cut_73 ?_
          refine lv_dup2_11 hx hb dX5_cut_74 rfl rfl ?_
          refine rr_iald C hN 15 (Nat.lt_of_lt_of_le (by decide) hNN) rfl (by decide) (mo_rd u 4 k) (Nat.lt_succ_of_le (hopn k (by omega)).2) (by rw [eus9]; exact (hopn k (by omega)).1) dX5_cut_75 ?_
          refine lv_iconst (v := 1) hx hb dX5_cut_76 (by decide) ?_
          refine lv_isub hx hb dX5_cut_77 ?_
          refine lv_topi (fun vs13 evs13 => ?_)
          refine rr_iast C hN 15 (Nat.lt_of_lt_of_le (by decide) hNN) (fun _ => rfl) (by decide) (mo_rd u 4 k) (Nat.lt_succ_of_le (hopn k (by omega)).2) (by rw [eus9]; exact (hopn k (by omega)).1) dX5_cut_78 (fun us14 eus14 H locs hN => ?_)
          obtain ⟨vs15, evs15⟩ : ∃ y9 : Int32, y9 = x + 1 := ⟨_, rfl⟩
          refine lv_iinc (v := vs15) (lv' := [(2, .int vs15), (1, .int q), (0, .ref (B 0))]) hx hb dX5_cut_79 hl (k := 2) rfl (by rw [evs15]; rfl) (by decide) rfl (fun ls hl => ?_)
          refine lv_goto (tgt := 9) hx hb dX5_cut_82 (by decide) ?_
          exact ih (k + 1) q vs15 us14 (by omega) (by subst_vars; exact hpk) (by rw [evs15, hxk]; exact nI_1 k) (by omega) (by subst_vars; exact hopn) (hr.trans (by subst_vars; simp only [mo_cut, mo_cl]; first | (rw [if_pos (show mo_st (ww_up u 5 k 1) k = 1 from c_47), if_neg (show ¬ u 15 (mo_rd u 4 k) ≤ 0 from c_61)]; (first | rw [if_pos c_23] | rw [if_neg c_23]); rfl) | rfl | ((repeat' split) <;> first | rfl | contradiction | simp_all))) (hu.trans (by subst_vars; simp only [mo_cut, mo_cl]; first | (rw [if_pos (show mo_st (ww_up u 5 k 1) k = 1 from c_47), if_neg (show ¬ u 15 (mo_rd u 4 k) ≤ 0 from c_61)]; (first | rw [if_pos c_23] | rw [if_neg c_23]); rfl) | rfl | ((repeat' split) <;> first | rfl | contradiction | simp_all))) H locs ls hN (lv_sub hl [2, 1, 0] rfl)
set_option maxHeartbeats 4000000 in
set_option maxRecDepth 100000 in
theorem ct_X5_cut (l : Launch) {D : va_G} {ca : Nat → ClassId} {B : Nat → Nat} {N n : Nat} {X : va_W} {u : ww_U} {n0 : Nat} (hn08 : n0 ≤ 8) (hpk : u 0 1 = nI n0) (hopn : mo_opn u) (hNN : 29 ≤ N)  : ww_M l yX5_cut wsX5_cut ({ frames := 1, cells := 0, slots := 0, locals := 21 } : Room) D ca B N n X u [.ref (B 0)] (some (.int (mo_cut n0 1 (mo_z u) 0).2)) (mo_cut n0 1 (mo_z u) 0).1 := by
  refine ww_met (cc := cX5_cut) (maxL := 3) (ret := (some .int)) (by decide) rfl (Nat.le_of_ble_eq_true rfl) ?_
  intro p e s m args below meth c C hN ls hl
  have hl : lv_has ls 3 [(0, .ref (B 0))] := hl
  have hx := C.1.1
  have hb := C.1.2.1
  refine lv_aload_n hx hb dX5_cut_0 rfl (lv_at hl 0 rfl) ?_
  refine lv_iconst (v := 0) hx hb dX5_cut_1 (by decide) ?_
  refine rr_put C hN 0 (Nat.lt_of_lt_of_le (by decide) hNN) rfl rfl kw_X5_cut_X5 0 (by decide) (List.mem_of_getElem? (i := 1) rfl) rfl (x := 0) rfl rfl (Nat.le_of_ble_eq_true rfl) ((Eq.refl _).trans rfl) dX5_cut_2 (fun u1 eu1 H locs hN => ?_)
  refine lv_iconst (v := 0) hx hb dX5_cut_5 (by decide) ?_
  refine lv_istore_n (lv' := [(1, .int 0), (0, .ref (B 0))]) hx hb dX5_cut_6 rfl hl (by decide) rfl (fun ls hl => ?_)
  refine lv_iconst (v := 1) hx hb dX5_cut_7 (by decide) ?_
  refine lv_istore_n (lv' := [(2, .int 1), (1, .int 0), (0, .ref (B 0))]) hx hb dX5_cut_8 rfl hl (by decide) rfl (fun ls hl => ?_)
  exact lp_X5_cut C hNN hn08 n0 1 0 1 u1 (by omega) (by rw [eu1]; exact hpk) rfl (by omega) (by rw [eu1]; exact hopn) (by rw [eu1]; rfl) (by rw [eu1]; rfl) _ _ _ hN (lv_sub hl [2, 1, 0] rfl)
set_option maxRecDepth 20000 in
theorem kw_X5_joint_X5 : ww_K wsX5_joint RX5 TX5 36 tyX5 := ⟨by decide +kernel, tyX5_ok, nmX5⟩
set_option maxHeartbeats 4000000 in
set_option maxRecDepth 100000 in
theorem lp_X5_joint {p : Program} {l : Launch} {e : Env} {s : State} {m : MethodId} {args : Array Value} {below : List Frame} {meth : Method} {c : Code} {D : va_G} {ca : Nat → ClassId} {B : Nat → Nat} {N n : Nat} {X : va_W} (C : ww_C D ca yX5_joint.cls cX5_joint 3 wsX5_joint (some .int) (ww_A B N X s.heap.size) p s m args meth c) (hNN : 29 ≤ N) {P : Nat} (hP60 : P ≤ 60)  {r : Option Value} {u' : ww_U} : ∀ (d k : Nat) (q : Int32) (x : Int32) (u : ww_U), k + d = P + 1 → (u 0 12 = nI P) → (x = nI k) → (1 ≤ k) → (mo_of u) → (q = 0 ∨ q = 1) → r = some (.int (if mo_jl d k u q = 0 then 0 else 1)) → u' = u → ∀ (H : Heap) (locs : List Loc) (ls : Array Slot), ww_N D ca B N n u X (ww_A B N X s.heap.size) s.heap H locs → lv_has ls 3 [(0, .ref (B 0)), (1, .int q), (2, .int x)] → W p l e (headSpec wsX5_joint ({ frames := 0, cells := 0, slots := 0, locals := 0 } : Room)).room s m args below meth c H locs 0 0 (MQ below (ww_Q D ca B N n X s.heap.size r u') args s 0 0 (ww_A B N X s.heap.size)) (F0 m 20 ls []) := by
  have hx := C.1.1
  have hb := C.1.2.1
  intro d
  induction d with
  | zero =>
    intro k q x u hkd hpk hxk hk1 hof hq01 hr hu H locs ls hN hl
    refine lv_iload_n hx hb dX5_joint_20 rfl (lv_at hl 2 rfl) ?_
    refine lv_aload_n hx hb dX5_joint_21 rfl (lv_at hl 0 rfl) ?_
    refine rr_get C hN 0 (Nat.lt_of_lt_of_le (by decide) hNN) rfl rfl kw_X5_joint_X5 12 (by decide) (List.mem_of_getElem? (i := 3) rfl) (v := .int (u 0 12)) rfl dX5_joint_22 ?_
    refine lv_icmp_gt (tgt := 77) hx hb dX5_joint_25 (by decide) (fun c_25 => ?_) (fun c_25 => absurd c_25 (fun h => h (by rw [hpk, hxk, show k = P + 1 by omega]; exact nI_lt (by omega) (by omega))))
    refine lv_iload_n hx hb dX5_joint_77 rfl (lv_at hl 1 rfl) ?_
    refine lv_if_eq (tgt := 85) hx hb dX5_joint_78 (by decide) (fun c_78 => ?_) (fun c_78 => ?_)
    · refine lv_iconst (v := 0) hx hb dX5_joint_85 (by decide) ?_
      exact rr_iret C hN dX5_joint_86 (hr.trans (congrArg (fun z => some (Value.int z)) (if_pos (show mo_jl 0 k u q = 0 from c_78)))) hu
    · refine lv_iconst (v := 1) hx hb dX5_joint_81 (by decide) ?_
      refine lv_goto (tgt := 86) hx hb dX5_joint_82 (by decide) ?_
      exact rr_iret C hN dX5_joint_86 (hr.trans (congrArg (fun z => some (Value.int z)) (if_neg (show ¬ mo_jl 0 k u q = 0 from c_78)))) hu
  | succ d ih =>
    intro k q x u hkd hpk hxk hk1 hof hq01 hr hu H locs ls hN hl
    refine lv_iload_n hx hb dX5_joint_20 rfl (lv_at hl 2 rfl) ?_
    refine lv_aload_n hx hb dX5_joint_21 rfl (lv_at hl 0 rfl) ?_
    refine rr_get C hN 0 (Nat.lt_of_lt_of_le (by decide) hNN) rfl rfl kw_X5_joint_X5 12 (by decide) (List.mem_of_getElem? (i := 3) rfl) (v := .int (u 0 12)) rfl dX5_joint_22 ?_
    refine lv_icmp_gt (tgt := 77) hx hb dX5_joint_25 (by decide) (fun c_25 => absurd c_25 (by rw [hpk, hxk]; exact nI_nlt (by omega) (by omega))) (fun c_25 => ?_)
    refine lv_iload_n hx hb dX5_joint_28 rfl (lv_at hl 1 rfl) ?_
    refine lv_if_eq (tgt := 69) hx hb dX5_joint_29 (by decide) (fun c_29 => ?_) (fun c_29 => ?_)
    · refine lv_iconst (v := 0) hx hb dX5_joint_69 (by decide) ?_
      refine lv_istore_n (lv' := [(1, .int 0), (0, .ref (B 0)), (2, .int x)]) hx hb dX5_joint_70 rfl hl (by decide) rfl (fun ls hl => ?_)
      obtain ⟨vs1, evs1⟩ : ∃ y9 : Int32, y9 = x + 1 := ⟨_, rfl⟩
      refine lv_iinc (v := vs1) (lv' := [(2, .int vs1), (1, .int 0), (0, .ref (B 0))]) hx hb dX5_joint_71 hl (k := 2) rfl (by rw [evs1]; rfl) (by decide) rfl (fun ls hl => ?_)
      refine lv_goto (tgt := 20) hx hb dX5_joint_74 (by decide) ?_
      exact ih (k + 1) 0 vs1 u (by omega) hpk (by rw [evs1, hxk]; exact nI_1 k) (by omega) hof (Or.inl rfl) (hr.trans (congrArg (fun z => some (Value.int (if mo_jl d (k + 1) u z = 0 then (0 : Int32) else 1))) (by subst_vars; unfold mo_j1; (repeat' split) <;> first | rfl | contradiction | simp_all))) hu H locs ls hN (lv_sub hl [2, 1, 0] rfl)
    · refine lv_aload_n hx hb dX5_joint_32 rfl (lv_at hl 0 rfl) ?_
      refine rr_get C hN 0 (Nat.lt_of_lt_of_le (by decide) hNN) rfl rfl kw_X5_joint_X5 19 (by decide) (List.mem_of_getElem? (i := 4) rfl) (v := .ref (B 17)) rfl dX5_joint_33 ?_
      refine lv_iload_n hx hb dX5_joint_36 rfl (lv_at hl 2 rfl) ?_
      refine rr_iald C hN 17 (Nat.lt_of_lt_of_le (by decide) hNN) rfl (by decide) k (by omega) hxk dX5_joint_37 ?_
      refine lv_aload_n hx hb dX5_joint_38 rfl (lv_at hl 0 rfl) ?_
      refine rr_get C hN 0 (Nat.lt_of_lt_of_le (by decide) hNN) rfl rfl kw_X5_joint_X5 28 (by decide) (List.mem_of_getElem? (i := 2) rfl) (v := .int (u 0 28)) rfl dX5_joint_39 ?_
      refine lv_icmp_ne (tgt := 65) hx hb dX5_joint_42 (by decide) (fun c_42 => ?_) (fun c_42 => ?_)
      · refine lv_iconst (v := 1) hx hb dX5_joint_65 (by decide) ?_
        refine lv_goto (tgt := 70) hx hb dX5_joint_66 (by decide) ?_
        refine lv_istore_n (lv' := [(1, .int 1), (0, .ref (B 0)), (2, .int x)]) hx hb dX5_joint_70 rfl hl (by decide) rfl (fun ls hl => ?_)
        obtain ⟨vs2, evs2⟩ : ∃ y9 : Int32, y9 = x + 1 := ⟨_, rfl⟩
        refine lv_iinc (v := vs2) (lv' := [(2, .int vs2), (1, .int 1), (0, .ref (B 0))]) hx hb dX5_joint_71 hl (k := 2) rfl (by rw [evs2]; rfl) (by decide) rfl (fun ls hl => ?_)
        refine lv_goto (tgt := 20) hx hb dX5_joint_74 (by decide) ?_
        exact ih (k + 1) 1 vs2 u (by omega) hpk (by rw [evs2, hxk]; exact nI_1 k) (by omega) hof (Or.inr rfl) (hr.trans (congrArg (fun z => some (Value.int (if mo_jl d (k + 1) u z = 0 then (0 : Int32) else 1))) (by subst_vars; unfold mo_j1; (repeat' split) <;> first | rfl | contradiction | simp_all))) hu H locs ls hN (lv_sub hl [2, 1, 0] rfl)
      · refine lv_aload_n hx hb dX5_joint_45 rfl (lv_at hl 0 rfl) ?_
        refine rr_get C hN 0 (Nat.lt_of_lt_of_le (by decide) hNN) rfl rfl kw_X5_joint_X5 3 (by decide) (List.mem_of_getElem? (i := 5) rfl) (v := .ref (B 2)) rfl dX5_joint_46 ?_
        refine lv_aload_n hx hb dX5_joint_49 rfl (lv_at hl 0 rfl) ?_
        refine rr_get C hN 0 (Nat.lt_of_lt_of_le (by decide) hNN) rfl rfl kw_X5_joint_X5 13 (by decide) (List.mem_of_getElem? (i := 6) rfl) (v := .ref (B 11)) rfl dX5_joint_50 ?_
        refine lv_iload_n hx hb dX5_joint_53 rfl (lv_at hl 2 rfl) ?_
        refine rr_iald C hN 11 (Nat.lt_of_lt_of_le (by decide) hNN) rfl (by decide) k (by omega) hxk dX5_joint_54 ?_
        refine rr_iald C hN 2 (Nat.lt_of_lt_of_le (by decide) hNN) rfl (by decide) (mo_rd u 11 k) (Nat.lt_succ_of_le (hof k (by omega)).2) (hof k (by omega)).1 dX5_joint_55 ?_
        refine lv_aload_n hx hb dX5_joint_56 rfl (lv_at hl 0 rfl) ?_
        refine rr_get C hN 0 (Nat.lt_of_lt_of_le (by decide) hNN) rfl rfl kw_X5_joint_X5 18 (by decide) (List.mem_of_getElem? (i := 7) rfl) (v := .ref (B 16)) rfl dX5_joint_57 ?_
        refine lv_iload_n hx hb dX5_joint_60 rfl (lv_at hl 2 rfl) ?_
        refine rr_iald C hN 16 (Nat.lt_of_lt_of_le (by decide) hNN) rfl (by decide) k (by omega) hxk dX5_joint_61 ?_
        refine lv_icmp_ne (tgt := 69) hx hb dX5_joint_62 (by decide) (fun c_62 => ?_) (fun c_62 => ?_)
        · refine lv_iconst (v := 0) hx hb dX5_joint_69 (by decide) ?_
          refine lv_istore_n (lv' := [(1, .int 0), (0, .ref (B 0)), (2, .int x)]) hx hb dX5_joint_70 rfl hl (by decide) rfl (fun ls hl => ?_)
          obtain ⟨vs3, evs3⟩ : ∃ y9 : Int32, y9 = x + 1 := ⟨_, rfl⟩
          refine lv_iinc (v := vs3) (lv' := [(2, .int vs3), (1, .int 0), (0, .ref (B 0))]) hx hb dX5_joint_71 hl (k := 2) rfl (by rw [evs3]; rfl) (by decide) rfl (fun ls hl => ?_)
          refine lv_goto (tgt := 20) hx hb dX5_joint_74 (by decide) ?_
          exact ih (k + 1) 0 vs3 u (by omega) hpk (by rw [evs3, hxk]; exact nI_1 k) (by omega) hof (Or.inl rfl) (hr.trans (congrArg (fun z => some (Value.int (if mo_jl d (k + 1) u z = 0 then (0 : Int32) else 1))) (by subst_vars; unfold mo_j1; (repeat' split) <;> first | rfl | contradiction | simp_all))) hu H locs ls hN (lv_sub hl [2, 1, 0] rfl)
        · refine lv_iconst (v := 1) hx hb dX5_joint_65 (by decide) ?_
          refine lv_goto (tgt := 70) hx hb dX5_joint_66 (by decide) ?_
          refine lv_istore_n (lv' := [(1, .int 1), (0, .ref (B 0)), (2, .int x)]) hx hb dX5_joint_70 rfl hl (by decide) rfl (fun ls hl => ?_)
          obtain ⟨vs4, evs4⟩ : ∃ y9 : Int32, y9 = x + 1 := ⟨_, rfl⟩
          refine lv_iinc (v := vs4) (lv' := [(2, .int vs4), (1, .int 1), (0, .ref (B 0))]) hx hb dX5_joint_71 hl (k := 2) rfl (by rw [evs4]; rfl) (by decide) rfl (fun ls hl => ?_)
          refine lv_goto (tgt := 20) hx hb dX5_joint_74 (by decide) ?_
          exact ih (k + 1) 1 vs4 u (by omega) hpk (by rw [evs4, hxk]; exact nI_1 k) (by omega) hof (Or.inr rfl) (hr.trans (congrArg (fun z => some (Value.int (if mo_jl d (k + 1) u z = 0 then (0 : Int32) else 1))) (by subst_vars; unfold mo_j1; (repeat' split) <;> first | rfl | contradiction | simp_all))) hu H locs ls hN (lv_sub hl [2, 1, 0] rfl)
set_option maxHeartbeats 4000000 in
set_option maxRecDepth 100000 in
theorem ct_X5_joint (l : Launch) {D : va_G} {ca : Nat → ClassId} {B : Nat → Nat} {N n : Nat} {X : va_W} {u : ww_U} {P : Nat} (hP60 : P ≤ 60) (hpk : u 0 12 = nI P) (hof : mo_of u) (hNN : 29 ≤ N)  : ww_M l yX5_joint wsX5_joint ({ frames := 0, cells := 0, slots := 0, locals := 0 } : Room) D ca B N n X u [.ref (B 0)] (some (.int (mo_joint P u))) (mo_z u) := by
  refine ww_met (cc := cX5_joint) (maxL := 3) (ret := (some .int)) (by decide) rfl (Nat.le_of_ble_eq_true rfl) ?_
  intro p e s m args below meth c C hN ls hl
  have hl : lv_has ls 3 [(0, .ref (B 0))] := hl
  have hx := C.1.1
  have hb := C.1.2.1
  refine lv_aload_n hx hb dX5_joint_0 rfl (lv_at hl 0 rfl) ?_
  refine lv_iconst (v := 0) hx hb dX5_joint_1 (by decide) ?_
  refine rr_put C hN 0 (Nat.lt_of_lt_of_le (by decide) hNN) rfl rfl kw_X5_joint_X5 0 (by decide) (List.mem_of_getElem? (i := 1) rfl) rfl (x := 0) rfl rfl (Nat.le_of_ble_eq_true rfl) ((Eq.refl _).trans rfl) dX5_joint_2 (fun u1 eu1 H locs hN => ?_)
  refine lv_aload_n hx hb dX5_joint_5 rfl (lv_at hl 0 rfl) ?_
  refine rr_get C hN 0 (Nat.lt_of_lt_of_le (by decide) hNN) rfl rfl kw_X5_joint_X5 28 (by decide) (List.mem_of_getElem? (i := 2) rfl) (v := .int (u1 0 28)) rfl dX5_joint_6 ?_
  refine lv_if_le (tgt := 16) hx hb dX5_joint_9 (by decide) (fun c_9 => ?_) (fun c_9 => ?_)
  · refine lv_iconst (v := 0) hx hb dX5_joint_16 (by decide) ?_
    refine lv_istore_n (lv' := [(1, .int 0), (0, .ref (B 0))]) hx hb dX5_joint_17 rfl hl (by decide) rfl (fun ls hl => ?_)
    refine lv_iconst (v := 1) hx hb dX5_joint_18 (by decide) ?_
    refine lv_istore_n (lv' := [(2, .int 1), (1, .int 0), (0, .ref (B 0))]) hx hb dX5_joint_19 rfl hl (by decide) rfl (fun ls hl => ?_)
    exact lp_X5_joint C hNN hP60 P 1 0 1 u1 (by omega) (by rw [eu1]; exact hpk) rfl (by omega) (by rw [eu1]; exact hof) (Or.inl rfl) (by have h9 := c_9; rw [eu1] at h9; unfold mo_joint; (first | rw [if_pos (show u 0 28 ≤ 0 from h9)] | rw [if_neg (show ¬ u 0 28 ≤ 0 from h9)]); rw [eu1]; rfl) (by rw [eu1]; rfl) _ _ _ hN (lv_sub hl [2, 1, 0] rfl)
  · refine lv_iconst (v := 1) hx hb dX5_joint_12 (by decide) ?_
    refine lv_goto (tgt := 17) hx hb dX5_joint_13 (by decide) ?_
    refine lv_istore_n (lv' := [(1, .int 1), (0, .ref (B 0))]) hx hb dX5_joint_17 rfl hl (by decide) rfl (fun ls hl => ?_)
    refine lv_iconst (v := 1) hx hb dX5_joint_18 (by decide) ?_
    refine lv_istore_n (lv' := [(2, .int 1), (1, .int 1), (0, .ref (B 0))]) hx hb dX5_joint_19 rfl hl (by decide) rfl (fun ls hl => ?_)
    exact lp_X5_joint C hNN hP60 P 1 1 1 u1 (by omega) (by rw [eu1]; exact hpk) rfl (by omega) (by rw [eu1]; exact hof) (Or.inr rfl) (by have h9 := c_9; rw [eu1] at h9; unfold mo_joint; (first | rw [if_pos (show u 0 28 ≤ 0 from h9)] | rw [if_neg (show ¬ u 0 28 ≤ 0 from h9)]); rw [eu1]; rfl) (by rw [eu1]; rfl) _ _ _ hN (lv_sub hl [2, 1, 0] rfl)
theorem mo_sw_ru {u : ww_U} {c : Nat} (h : mo_ru u) (hc : c ≤ 8) : mo_ru (mo_sw u c) := by
  intro a ha
  show okn (ww_up u 2 c (1 - u 2 c) 2 a) 1
  exact okn_up h (okn_flip (h c hc)).1 ha
theorem mo_sw_of {u : ww_U} {c : Nat} (h : mo_of u) : mo_of (mo_sw u c) := h
set_option maxRecDepth 20000 in
theorem kw_X5_rollback_X5 : ww_K wsX5_rollback RX5 TX5 36 tyX5 := ⟨by decide +kernel, tyX5_ok, nmX5⟩
set_option maxHeartbeats 4000000 in
set_option maxRecDepth 100000 in
theorem lp_X5_rollback2 {p : Program} {l : Launch} {e : Env} {s : State} {m : MethodId} {args : Array Value} {below : List Frame} {meth : Method} {c : Code} {D : va_G} {ca : Nat → ClassId} {B : Nat → Nat} {N n : Nat} {X : va_W} (C : ww_C D ca yX5_rollback.cls cX5_rollback 4 wsX5_rollback (some .int) (ww_A B N X s.heap.size) p s m args meth c) (hNN : 29 ≤ N) {P : Nat} (hP60 : P ≤ 60) (q : Int32)  {r : Option Value} {u' : ww_U} : ∀ (d k : Nat) (x : Int32) (u : ww_U), k + d = P + 1 → (u 0 12 = nI P) → (x = nI k) → (1 ≤ k) → (mo_of u) → (mo_ru u) → r = some (.int 1) → u' = ww_up (mo_rl d k u) 0 28 0 → ∀ (H : Heap) (locs : List Loc) (ls : Array Slot), ww_N D ca B N n u X (ww_A B N X s.heap.size) s.heap H locs → lv_has ls 4 [(0, .ref (B 0)), (1, .int q), (2, .int x)] → W p l e (headSpec wsX5_rollback ({ frames := 1, cells := 0, slots := 0, locals := 21 } : Room)).room s m args below meth c H locs 0 0 (MQ below (ww_Q D ca B N n X s.heap.size r u') args s 0 0 (ww_A B N X s.heap.size)) (F0 m 92 ls []) := by
  have hx := C.1.1
  have hb := C.1.2.1
  intro d
  induction d with
  | zero =>
    intro k x u hkd hpk hxk hk1 hof hru hr hu H locs ls hN hl
    refine lv_iload_n hx hb dX5_rollback_92 rfl (lv_at hl 2 rfl) ?_
    refine lv_aload_n hx hb dX5_rollback_93 rfl (lv_at hl 0 rfl) ?_
    refine rr_get C hN 0 (Nat.lt_of_lt_of_le (by decide) hNN) rfl rfl kw_X5_rollback_X5 12 (by decide) (List.mem_of_getElem? (i := 3) rfl) (v := .int (u 0 12)) rfl dX5_rollback_94 ?_
    refine lv_icmp_gt (tgt := 164) hx hb dX5_rollback_97 (by decide) (fun c_97 => ?_) (fun c_97 => absurd c_97 (fun h => h (by rw [hpk, hxk, show k = P + 1 by omega]; exact nI_lt (by omega) (by omega))))
    refine lv_aload_n hx hb dX5_rollback_164 rfl (lv_at hl 0 rfl) ?_
    refine lv_iconst (v := 0) hx hb dX5_rollback_165 (by decide) ?_
    refine rr_put C hN 0 (Nat.lt_of_lt_of_le (by decide) hNN) rfl rfl kw_X5_rollback_X5 28 (by decide) (List.mem_of_getElem? (i := 2) rfl) rfl (x := 0) rfl rfl (Nat.le_of_ble_eq_true rfl) ((Eq.refl _).trans rfl) dX5_rollback_166 (fun uz1 euz1 H locs hN => ?_)
    refine lv_iconst (v := 1) hx hb dX5_rollback_169 (by decide) ?_
    exact rr_iret C hN dX5_rollback_170 hr (hu.trans (by rw [euz1]; simp only [mo_rl]))
  | succ d ih =>
    intro k x u hkd hpk hxk hk1 hof hru hr hu H locs ls hN hl
    refine lv_iload_n hx hb dX5_rollback_92 rfl (lv_at hl 2 rfl) ?_
    refine lv_aload_n hx hb dX5_rollback_93 rfl (lv_at hl 0 rfl) ?_
    refine rr_get C hN 0 (Nat.lt_of_lt_of_le (by decide) hNN) rfl rfl kw_X5_rollback_X5 12 (by decide) (List.mem_of_getElem? (i := 3) rfl) (v := .int (u 0 12)) rfl dX5_rollback_94 ?_
    refine lv_icmp_gt (tgt := 164) hx hb dX5_rollback_97 (by decide) (fun c_97 => absurd c_97 (by rw [hpk, hxk]; exact nI_nlt (by omega) (by omega))) (fun c_97 => ?_)
    refine lv_aload_n hx hb dX5_rollback_100 rfl (lv_at hl 0 rfl) ?_
    refine rr_get C hN 0 (Nat.lt_of_lt_of_le (by decide) hNN) rfl rfl kw_X5_rollback_X5 13 (by decide) (List.mem_of_getElem? (i := 5) rfl) (v := .ref (B 11)) rfl dX5_rollback_101 ?_
    refine lv_iload_n hx hb dX5_rollback_104 rfl (lv_at hl 2 rfl) ?_
    refine rr_iald C hN 11 (Nat.lt_of_lt_of_le (by decide) hNN) rfl (by decide) k (by omega) hxk dX5_rollback_105 ?_
    refine lv_istore_n (lv' := [(3, .int (u 11 k)), (0, .ref (B 0)), (1, .int q), (2, .int x)]) hx hb dX5_rollback_106 rfl hl (by decide) rfl (fun ls hl => ?_)
    refine lv_aload_n hx hb dX5_rollback_107 rfl (lv_at hl 1 rfl) ?_
    refine rr_get C hN 0 (Nat.lt_of_lt_of_le (by decide) hNN) rfl rfl kw_X5_rollback_X5 19 (by decide) (List.mem_of_getElem? (i := 4) rfl) (v := .ref (B 17)) rfl dX5_rollback_108 ?_
    refine lv_iload_n hx hb dX5_rollback_111 rfl (lv_at hl 3 rfl) ?_
    refine rr_iald C hN 17 (Nat.lt_of_lt_of_le (by decide) hNN) rfl (by decide) k (by omega) hxk dX5_rollback_112 ?_
    refine lv_aload_n hx hb dX5_rollback_113 rfl (lv_at hl 1 rfl) ?_
    refine rr_get C hN 0 (Nat.lt_of_lt_of_le (by decide) hNN) rfl rfl kw_X5_rollback_X5 28 (by decide) (List.mem_of_getElem? (i := 2) rfl) (v := .int (u 0 28)) rfl dX5_rollback_114 ?_
    refine lv_icmp_eq (tgt := 123) hx hb dX5_rollback_117 (by decide) (fun c_117 => ?_) (fun c_117 => ?_)
    · refine lv_aload_n hx hb dX5_rollback_123 rfl (lv_at hl 1 rfl) ?_
      refine rr_get C hN 0 (Nat.lt_of_lt_of_le (by decide) hNN) rfl rfl kw_X5_rollback_X5 3 (by decide) (List.mem_of_getElem? (i := 7) rfl) (v := .ref (B 2)) rfl dX5_rollback_124 ?_
      refine lv_iload_n hx hb dX5_rollback_127 rfl (lv_at hl 0 rfl) ?_
      refine lv_iconst (v := 1) hx hb dX5_rollback_128 (by decide) ?_
      refine lv_aload_n hx hb dX5_rollback_129 rfl (lv_at hl 1 rfl) ?_
      refine rr_get C hN 0 (Nat.lt_of_lt_of_le (by decide) hNN) rfl rfl kw_X5_rollback_X5 3 (by decide) (List.mem_of_getElem? (i := 7) rfl) (v := .ref (B 2)) rfl dX5_rollback_130 ?_
      refine lv_iload_n hx hb dX5_rollback_133 rfl (lv_at hl 0 rfl) ?_
      refine rr_iald C hN 2 (Nat.lt_of_lt_of_le (by decide) hNN) rfl (by decide) (mo_rd u 11 k) (Nat.lt_succ_of_le (hof k (by omega)).2) (hof k (by omega)).1 dX5_rollback_134 ?_
      refine lv_isub hx hb dX5_rollback_135 ?_
      refine lv_topi (fun vs1 evs1 => ?_)
      refine rr_iast C hN 2 (Nat.lt_of_lt_of_le (by decide) hNN) (fun _ => rfl) (by decide) (mo_rd u 11 k) (Nat.lt_succ_of_le (hof k (by omega)).2) (hof k (by omega)).1 dX5_rollback_136 (fun us2 eus2 H locs hN => ?_)
      refine lv_aload_n hx hb dX5_rollback_137 rfl (lv_at hl 1 rfl) ?_
      refine rr_get C hN 0 (Nat.lt_of_lt_of_le (by decide) hNN) rfl rfl kw_X5_rollback_X5 4 (by decide) (List.mem_of_getElem? (i := 8) rfl) (v := .ref (B 3)) rfl dX5_rollback_138 ?_
      refine lv_iload_n hx hb dX5_rollback_141 rfl (lv_at hl 0 rfl) ?_
      refine lv_aload_n hx hb dX5_rollback_142 rfl (lv_at hl 1 rfl) ?_
      refine rr_get C hN 0 (Nat.lt_of_lt_of_le (by decide) hNN) rfl rfl kw_X5_rollback_X5 10 (by decide) (List.mem_of_getElem? (i := 9) rfl) (v := .ref (B 9)) rfl dX5_rollback_143 ?_
      refine lv_iconst (v := 2) hx hb dX5_rollback_146 (by decide) ?_
      refine lv_iload_n hx hb dX5_rollback_147 rfl (lv_at hl 0 rfl) ?_
      refine lv_imul hx hb dX5_rollback_148 ?_
      refine lv_topi (fun vs3 evs3 => ?_)
      refine lv_aload_n hx hb dX5_rollback_149 rfl (lv_at hl 1 rfl) ?_
      refine rr_get C hN 0 (Nat.lt_of_lt_of_le (by decide) hNN) rfl rfl kw_X5_rollback_X5 3 (by decide) (List.mem_of_getElem? (i := 7) rfl) (v := .ref (B 2)) rfl dX5_rollback_150 ?_
      refine lv_iload_n hx hb dX5_rollback_153 rfl (lv_at hl 0 rfl) ?_
      refine rr_iald C hN 2 (Nat.lt_of_lt_of_le (by decide) hNN) rfl (by decide) (mo_rd u 11 k) (Nat.lt_succ_of_le (hof k (by omega)).2) (hof k (by omega)).1 dX5_rollback_154 ?_
      refine lv_iadd hx hb dX5_rollback_155 ?_
      refine lv_topi (fun vs4 evs4 => ?_)
      refine rr_iald C hN 9 (Nat.lt_of_lt_of_le (by decide) hNN) rfl (by decide) (2 * (mo_rd u 11 k) + (1 - mo_rd u 2 (mo_rd u 11 k))) (by have h1 := (hru _ (hof k (by omega)).2).2; have h2 := (hof k (by omega)).2; show 2 * (mo_rd u 11 k) + (1 - mo_rd u 2 (mo_rd u 11 k)) < 18; change mo_rd u 11 k ≤ 8 at h2; omega) (by rw [evs4, evs3, eus2, ww_up_self, evs1, show (1 : Int32) - u 2 (mo_rd u 11 k) = nI (1 - mo_rd u 2 (mo_rd u 11 k)) from (okn_flip (hru (mo_rd u 11 k) (hof k (by omega)).2)).2, show u 11 k = nI (mo_rd u 11 k) from (hof k (by omega)).1]; exact (congrArg (fun z : Int32 => z + nI (1 - mo_rd u 2 (mo_rd u 11 k))) (pk_mul 2 _)).trans (nI_add _ _)) dX5_rollback_156 ?_
      refine rr_iast C hN 3 (Nat.lt_of_lt_of_le (by decide) hNN) (fun _ => rfl) (by decide) (mo_rd u 11 k) (Nat.lt_succ_of_le (hof k (by omega)).2) (hof k (by omega)).1 dX5_rollback_157 (fun us5 eus5 H locs hN => ?_)
      have hSW : us5 = mo_sw u (mo_rd u 11 k) := by rw [eus5, eus2, evs1]; rfl
      obtain ⟨vs6, evs6⟩ : ∃ y9 : Int32, y9 = x + 1 := ⟨_, rfl⟩
      refine lv_iinc (v := vs6) (lv' := [(2, .int vs6), (3, .int (u 11 k)), (0, .ref (B 0)), (1, .int q)]) hx hb dX5_rollback_158 hl (k := 3) rfl (by rw [evs6]; rfl) (by decide) rfl (fun ls hl => ?_)
      refine lv_goto (tgt := 92) hx hb dX5_rollback_161 (by decide) ?_
      exact ih (k + 1) vs6 us5 (by omega) (by rw [hSW]; exact hpk) (by rw [evs6, hxk]; exact nI_1 k) (by omega) (by rw [hSW]; exact mo_sw_of hof) (by rw [hSW]; exact mo_sw_ru hru (hof k (by omega)).2) hr (hu.trans (by simp only [mo_rl]; rw [if_pos c_117, hSW])) H locs ls hN (lv_sub hl [2, 3, 0] rfl)
    · refine lv_goto (tgt := 158) hx hb dX5_rollback_120 (by decide) ?_
      obtain ⟨vs7, evs7⟩ : ∃ y9 : Int32, y9 = x + 1 := ⟨_, rfl⟩
      refine lv_iinc (v := vs7) (lv' := [(2, .int vs7), (3, .int (u 11 k)), (0, .ref (B 0)), (1, .int q)]) hx hb dX5_rollback_158 hl (k := 3) rfl (by rw [evs7]; rfl) (by decide) rfl (fun ls hl => ?_)
      refine lv_goto (tgt := 92) hx hb dX5_rollback_161 (by decide) ?_
      exact ih (k + 1) vs7 u (by omega) hpk (by rw [evs7, hxk]; exact nI_1 k) (by omega) hof hru hr (hu.trans (by simp only [mo_rl]; rw [if_neg c_117])) H locs ls hN (lv_sub hl [2, 3, 0] rfl)
set_option maxHeartbeats 4000000 in
set_option maxRecDepth 100000 in
theorem lp_X5_rollback1 {p : Program} {l : Launch} {e : Env} {s : State} {m : MethodId} {args : Array Value} {below : List Frame} {meth : Method} {c : Code} {D : va_G} {ca : Nat → ClassId} {B : Nat → Nat} {N n : Nat} {X : va_W} (C : ww_C D ca yX5_rollback.cls cX5_rollback 4 wsX5_rollback (some .int) (ww_A B N X s.heap.size) p s m args meth c) (hNN : 29 ≤ N) {P : Nat} (hP60 : P ≤ 60)  {r : Option Value} {u' : ww_U} : ∀ (d k : Nat) (q : Int32) (x : Int32) (u : ww_U), k + d = P + 1 → (u 0 12 = nI P) → (x = nI k) → (1 ≤ k) → (mo_of u) → (mo_ru u) → (q = 0 ∨ q = 1) → r = some (.int (if mo_rm d k u q = 0 then 0 else 1)) → u' = (if mo_rm d k u q = 0 then u else ww_up (mo_rl P 1 u) 0 28 0) → ∀ (H : Heap) (locs : List Loc) (ls : Array Slot), ww_N D ca B N n u X (ww_A B N X s.heap.size) s.heap H locs → lv_has ls 4 [(0, .ref (B 0)), (1, .int q), (2, .int x)] → W p l e (headSpec wsX5_rollback ({ frames := 1, cells := 0, slots := 0, locals := 21 } : Room)).room s m args below meth c H locs 0 0 (MQ below (ww_Q D ca B N n X s.heap.size r u') args s 0 0 (ww_A B N X s.heap.size)) (F0 m 20 ls []) := by
  have hx := C.1.1
  have hb := C.1.2.1
  intro d
  induction d with
  | zero =>
    intro k q x u hkd hpk hxk hk1 hof hru hq01 hr hu H locs ls hN hl
    refine lv_iload_n hx hb dX5_rollback_20 rfl (lv_at hl 2 rfl) ?_
    refine lv_aload_n hx hb dX5_rollback_21 rfl (lv_at hl 0 rfl) ?_
    refine rr_get C hN 0 (Nat.lt_of_lt_of_le (by decide) hNN) rfl rfl kw_X5_rollback_X5 12 (by decide) (List.mem_of_getElem? (i := 3) rfl) (v := .int (u 0 12)) rfl dX5_rollback_22 ?_
    refine lv_icmp_gt (tgt := 84) hx hb dX5_rollback_25 (by decide) (fun c_25 => ?_) (fun c_25 => absurd c_25 (fun h => h (by rw [hpk, hxk, show k = P + 1 by omega]; exact nI_lt (by omega) (by omega))))
    refine lv_iload_n hx hb dX5_rollback_84 rfl (lv_at hl 1 rfl) ?_
    refine lv_if_ne (tgt := 90) hx hb dX5_rollback_85 (by decide) (fun c_85 => ?_) (fun c_85 => ?_)
    · refine lv_iconst (v := 1) hx hb dX5_rollback_90 (by decide) ?_
      refine lv_istore_n (lv' := [(2, .int 1), (0, .ref (B 0)), (1, .int q)]) hx hb dX5_rollback_91 rfl hl (by decide) rfl (fun ls hl => ?_)
      exact lp_X5_rollback2 C hNN hP60 q P 1 1 u (by omega) hpk rfl (by omega) hof hru (by rw [hr, if_neg (by simp only [mo_rm]; exact c_85)]) (by rw [hu, if_neg (by simp only [mo_rm]; exact c_85)]) H locs ls hN (lv_sub hl [1, 2, 0] rfl)
    · refine lv_iconst (v := 0) hx hb dX5_rollback_88 (by decide) ?_
      exact rr_iret C hN dX5_rollback_89 (hr.trans (by rw [if_pos (by simp only [mo_rm]; exact c_85)])) (hu.trans (by rw [if_pos (by simp only [mo_rm]; exact c_85)]))
  | succ d ih =>
    intro k q x u hkd hpk hxk hk1 hof hru hq01 hr hu H locs ls hN hl
    refine lv_iload_n hx hb dX5_rollback_20 rfl (lv_at hl 2 rfl) ?_
    refine lv_aload_n hx hb dX5_rollback_21 rfl (lv_at hl 0 rfl) ?_
    refine rr_get C hN 0 (Nat.lt_of_lt_of_le (by decide) hNN) rfl rfl kw_X5_rollback_X5 12 (by decide) (List.mem_of_getElem? (i := 3) rfl) (v := .int (u 0 12)) rfl dX5_rollback_22 ?_
    refine lv_icmp_gt (tgt := 84) hx hb dX5_rollback_25 (by decide) (fun c_25 => absurd c_25 (by rw [hpk, hxk]; exact nI_nlt (by omega) (by omega))) (fun c_25 => ?_)
    refine lv_iload_n hx hb dX5_rollback_28 rfl (lv_at hl 1 rfl) ?_
    refine lv_if_eq (tgt := 76) hx hb dX5_rollback_29 (by decide) (fun c_29 => ?_) (fun c_29 => ?_)
    · refine lv_iconst (v := 0) hx hb dX5_rollback_76 (by decide) ?_
      refine lv_istore_n (lv' := [(1, .int 0), (0, .ref (B 0)), (2, .int x)]) hx hb dX5_rollback_77 rfl hl (by decide) rfl (fun ls hl => ?_)
      obtain ⟨vs1, evs1⟩ : ∃ y9 : Int32, y9 = x + 1 := ⟨_, rfl⟩
      refine lv_iinc (v := vs1) (lv' := [(2, .int vs1), (1, .int 0), (0, .ref (B 0))]) hx hb dX5_rollback_78 hl (k := 2) rfl (by rw [evs1]; rfl) (by decide) rfl (fun ls hl => ?_)
      refine lv_goto (tgt := 20) hx hb dX5_rollback_81 (by decide) ?_
      exact ih (k + 1) 0 vs1 u (by omega) hpk (by rw [evs1, hxk]; exact nI_1 k) (by omega) hof hru (Or.inl rfl) (hr.trans (congrArg (fun z => some (Value.int (if mo_rm d (k + 1) u z = 0 then (0 : Int32) else 1))) (by subst_vars; unfold mo_r1; (repeat' split) <;> first | rfl | contradiction | simp_all))) (hu.trans (congrArg (fun z => if mo_rm d (k + 1) u z = 0 then u else ww_up (mo_rl P 1 u) 0 28 0) (by subst_vars; unfold mo_r1; (repeat' split) <;> first | rfl | contradiction | simp_all))) H locs ls hN (lv_sub hl [2, 1, 0] rfl)
    · refine lv_aload_n hx hb dX5_rollback_32 rfl (lv_at hl 0 rfl) ?_
      refine rr_get C hN 0 (Nat.lt_of_lt_of_le (by decide) hNN) rfl rfl kw_X5_rollback_X5 19 (by decide) (List.mem_of_getElem? (i := 4) rfl) (v := .ref (B 17)) rfl dX5_rollback_33 ?_
      refine lv_iload_n hx hb dX5_rollback_36 rfl (lv_at hl 2 rfl) ?_
      refine rr_iald C hN 17 (Nat.lt_of_lt_of_le (by decide) hNN) rfl (by decide) k (by omega) hxk dX5_rollback_37 ?_
      refine lv_aload_n hx hb dX5_rollback_38 rfl (lv_at hl 0 rfl) ?_
      refine rr_get C hN 0 (Nat.lt_of_lt_of_le (by decide) hNN) rfl rfl kw_X5_rollback_X5 28 (by decide) (List.mem_of_getElem? (i := 2) rfl) (v := .int (u 0 28)) rfl dX5_rollback_39 ?_
      refine lv_icmp_ne (tgt := 72) hx hb dX5_rollback_42 (by decide) (fun c_42 => ?_) (fun c_42 => ?_)
      · refine lv_iconst (v := 1) hx hb dX5_rollback_72 (by decide) ?_
        refine lv_goto (tgt := 77) hx hb dX5_rollback_73 (by decide) ?_
        refine lv_istore_n (lv' := [(1, .int 1), (0, .ref (B 0)), (2, .int x)]) hx hb dX5_rollback_77 rfl hl (by decide) rfl (fun ls hl => ?_)
        obtain ⟨vs2, evs2⟩ : ∃ y9 : Int32, y9 = x + 1 := ⟨_, rfl⟩
        refine lv_iinc (v := vs2) (lv' := [(2, .int vs2), (1, .int 1), (0, .ref (B 0))]) hx hb dX5_rollback_78 hl (k := 2) rfl (by rw [evs2]; rfl) (by decide) rfl (fun ls hl => ?_)
        refine lv_goto (tgt := 20) hx hb dX5_rollback_81 (by decide) ?_
        exact ih (k + 1) 1 vs2 u (by omega) hpk (by rw [evs2, hxk]; exact nI_1 k) (by omega) hof hru (Or.inr rfl) (hr.trans (congrArg (fun z => some (Value.int (if mo_rm d (k + 1) u z = 0 then (0 : Int32) else 1))) (by subst_vars; unfold mo_r1; (repeat' split) <;> first | rfl | contradiction | simp_all))) (hu.trans (congrArg (fun z => if mo_rm d (k + 1) u z = 0 then u else ww_up (mo_rl P 1 u) 0 28 0) (by subst_vars; unfold mo_r1; (repeat' split) <;> first | rfl | contradiction | simp_all))) H locs ls hN (lv_sub hl [2, 1, 0] rfl)
      · refine lv_aload_n hx hb dX5_rollback_45 rfl (lv_at hl 0 rfl) ?_
        refine lv_aload_n hx hb dX5_rollback_46 rfl (lv_at hl 0 rfl) ?_
        refine rr_get C hN 0 (Nat.lt_of_lt_of_le (by decide) hNN) rfl rfl kw_X5_rollback_X5 13 (by decide) (List.mem_of_getElem? (i := 5) rfl) (v := .ref (B 11)) rfl dX5_rollback_47 ?_
        refine lv_iload_n hx hb dX5_rollback_50 rfl (lv_at hl 2 rfl) ?_
        refine rr_iald C hN 11 (Nat.lt_of_lt_of_le (by decide) hNN) rfl (by decide) k (by omega) hxk dX5_rollback_51 ?_
        refine rr_callV (As := [.int (u 11 k)]) C hN 0 (Nat.lt_of_lt_of_le (by decide) hNN) rfl rfl rfl (ct_X5_there l (q := mo_rd u 11 k) (hof k (by omega)).2 (hof k (by omega)).1 hNN) gX5_rollback_X5_there rfl rfl rfl 1 (by decide +kernel) ⟨Nat.le_of_ble_eq_true rfl, Nat.le_of_ble_eq_true rfl⟩ rfl hl.1 rfl (Nat.le_of_ble_eq_true rfl) ⟨Nat.zero_le _, Nat.zero_le _⟩ dX5_rollback_52 (fun H locs hN => ?_)
        refine lv_topi (fun vs3 evs3 => ?_)
        refine lv_if_eq (tgt := 76) hx hb dX5_rollback_55 (by decide) (fun c_55 => ?_) (fun c_55 => ?_)
        · refine lv_iconst (v := 0) hx hb dX5_rollback_76 (by decide) ?_
          refine lv_istore_n (lv' := [(1, .int 0), (0, .ref (B 0)), (2, .int x)]) hx hb dX5_rollback_77 rfl hl (by decide) rfl (fun ls hl => ?_)
          obtain ⟨vs4, evs4⟩ : ∃ y9 : Int32, y9 = x + 1 := ⟨_, rfl⟩
          refine lv_iinc (v := vs4) (lv' := [(2, .int vs4), (1, .int 0), (0, .ref (B 0))]) hx hb dX5_rollback_78 hl (k := 2) rfl (by rw [evs4]; rfl) (by decide) rfl (fun ls hl => ?_)
          refine lv_goto (tgt := 20) hx hb dX5_rollback_81 (by decide) ?_
          exact ih (k + 1) 0 vs4 u (by omega) hpk (by rw [evs4, hxk]; exact nI_1 k) (by omega) hof hru (Or.inl rfl) (hr.trans (congrArg (fun z => some (Value.int (if mo_rm d (k + 1) u z = 0 then (0 : Int32) else 1))) (by subst_vars; unfold mo_r1; (repeat' split) <;> first | rfl | contradiction | simp_all))) (hu.trans (congrArg (fun z => if mo_rm d (k + 1) u z = 0 then u else ww_up (mo_rl P 1 u) 0 28 0) (by subst_vars; unfold mo_r1; (repeat' split) <;> first | rfl | contradiction | simp_all))) H locs ls hN (lv_sub hl [2, 1, 0] rfl)
        · refine lv_aload_n hx hb dX5_rollback_58 rfl (lv_at hl 0 rfl) ?_
          refine rr_get C hN 0 (Nat.lt_of_lt_of_le (by decide) hNN) rfl rfl kw_X5_rollback_X5 5 (by decide) (List.mem_of_getElem? (i := 6) rfl) (v := .ref (B 4)) rfl dX5_rollback_59 ?_
          refine lv_aload_n hx hb dX5_rollback_62 rfl (lv_at hl 0 rfl) ?_
          refine rr_get C hN 0 (Nat.lt_of_lt_of_le (by decide) hNN) rfl rfl kw_X5_rollback_X5 13 (by decide) (List.mem_of_getElem? (i := 5) rfl) (v := .ref (B 11)) rfl dX5_rollback_63 ?_
          refine lv_iload_n hx hb dX5_rollback_66 rfl (lv_at hl 2 rfl) ?_
          refine rr_iald C hN 11 (Nat.lt_of_lt_of_le (by decide) hNN) rfl (by decide) k (by omega) hxk dX5_rollback_67 ?_
          refine rr_iald C hN 4 (Nat.lt_of_lt_of_le (by decide) hNN) rfl (by decide) (mo_rd u 11 k) (Nat.lt_succ_of_le (hof k (by omega)).2) (hof k (by omega)).1 dX5_rollback_68 ?_
          refine lv_if_gt (tgt := 76) hx hb dX5_rollback_69 (by decide) (fun c_69 => ?_) (fun c_69 => ?_)
          · refine lv_iconst (v := 0) hx hb dX5_rollback_76 (by decide) ?_
            refine lv_istore_n (lv' := [(1, .int 0), (0, .ref (B 0)), (2, .int x)]) hx hb dX5_rollback_77 rfl hl (by decide) rfl (fun ls hl => ?_)
            obtain ⟨vs5, evs5⟩ : ∃ y9 : Int32, y9 = x + 1 := ⟨_, rfl⟩
            refine lv_iinc (v := vs5) (lv' := [(2, .int vs5), (1, .int 0), (0, .ref (B 0))]) hx hb dX5_rollback_78 hl (k := 2) rfl (by rw [evs5]; rfl) (by decide) rfl (fun ls hl => ?_)
            refine lv_goto (tgt := 20) hx hb dX5_rollback_81 (by decide) ?_
            exact ih (k + 1) 0 vs5 u (by omega) hpk (by rw [evs5, hxk]; exact nI_1 k) (by omega) hof hru (Or.inl rfl) (hr.trans (congrArg (fun z => some (Value.int (if mo_rm d (k + 1) u z = 0 then (0 : Int32) else 1))) (by subst_vars; unfold mo_r1; (repeat' split) <;> first | rfl | contradiction | simp_all))) (hu.trans (congrArg (fun z => if mo_rm d (k + 1) u z = 0 then u else ww_up (mo_rl P 1 u) 0 28 0) (by subst_vars; unfold mo_r1; (repeat' split) <;> first | rfl | contradiction | simp_all))) H locs ls hN (lv_sub hl [2, 1, 0] rfl)
          · refine lv_iconst (v := 1) hx hb dX5_rollback_72 (by decide) ?_
            refine lv_goto (tgt := 77) hx hb dX5_rollback_73 (by decide) ?_
            refine lv_istore_n (lv' := [(1, .int 1), (0, .ref (B 0)), (2, .int x)]) hx hb dX5_rollback_77 rfl hl (by decide) rfl (fun ls hl => ?_)
            obtain ⟨vs6, evs6⟩ : ∃ y9 : Int32, y9 = x + 1 := ⟨_, rfl⟩
            refine lv_iinc (v := vs6) (lv' := [(2, .int vs6), (1, .int 1), (0, .ref (B 0))]) hx hb dX5_rollback_78 hl (k := 2) rfl (by rw [evs6]; rfl) (by decide) rfl (fun ls hl => ?_)
            refine lv_goto (tgt := 20) hx hb dX5_rollback_81 (by decide) ?_
            exact ih (k + 1) 1 vs6 u (by omega) hpk (by rw [evs6, hxk]; exact nI_1 k) (by omega) hof hru (Or.inr rfl) (hr.trans (congrArg (fun z => some (Value.int (if mo_rm d (k + 1) u z = 0 then (0 : Int32) else 1))) (by subst_vars; unfold mo_r1; (repeat' split) <;> first | rfl | contradiction | simp_all))) (hu.trans (congrArg (fun z => if mo_rm d (k + 1) u z = 0 then u else ww_up (mo_rl P 1 u) 0 28 0) (by subst_vars; unfold mo_r1; (repeat' split) <;> first | rfl | contradiction | simp_all))) H locs ls hN (lv_sub hl [2, 1, 0] rfl)
set_option maxHeartbeats 4000000 in
set_option maxRecDepth 100000 in
theorem ct_X5_rollback (l : Launch) {D : va_G} {ca : Nat → ClassId} {B : Nat → Nat} {N n : Nat} {X : va_W} {u : ww_U} {P : Nat} (hP60 : P ≤ 60) (hpk : u 0 12 = nI P) (hof : mo_of u) (hru : mo_ru u) (hNN : 29 ≤ N)  : ww_M l yX5_rollback wsX5_rollback ({ frames := 1, cells := 0, slots := 0, locals := 21 } : Room) D ca B N n X u [.ref (B 0)] (some (.int (mo_rollback P u).2)) (mo_rollback P u).1 := by
  refine ww_met (cc := cX5_rollback) (maxL := 4) (ret := (some .int)) (by decide) rfl (Nat.le_of_ble_eq_true rfl) ?_
  intro p e s m args below meth c C hN ls hl
  have hl : lv_has ls 4 [(0, .ref (B 0))] := hl
  have hx := C.1.1
  have hb := C.1.2.1
  refine lv_aload_n hx hb dX5_rollback_0 rfl (lv_at hl 0 rfl) ?_
  refine lv_iconst (v := 0) hx hb dX5_rollback_1 (by decide) ?_
  refine rr_put C hN 0 (Nat.lt_of_lt_of_le (by decide) hNN) rfl rfl kw_X5_rollback_X5 0 (by decide) (List.mem_of_getElem? (i := 1) rfl) rfl (x := 0) rfl rfl (Nat.le_of_ble_eq_true rfl) ((Eq.refl _).trans rfl) dX5_rollback_2 (fun u1 eu1 H locs hN => ?_)
  refine lv_aload_n hx hb dX5_rollback_5 rfl (lv_at hl 0 rfl) ?_
  refine rr_get C hN 0 (Nat.lt_of_lt_of_le (by decide) hNN) rfl rfl kw_X5_rollback_X5 28 (by decide) (List.mem_of_getElem? (i := 2) rfl) (v := .int (u1 0 28)) rfl dX5_rollback_6 ?_
  refine lv_if_le (tgt := 16) hx hb dX5_rollback_9 (by decide) (fun c_9 => ?_) (fun c_9 => ?_)
  · refine lv_iconst (v := 0) hx hb dX5_rollback_16 (by decide) ?_
    refine lv_istore_n (lv' := [(1, .int 0), (0, .ref (B 0))]) hx hb dX5_rollback_17 rfl hl (by decide) rfl (fun ls hl => ?_)
    refine lv_iconst (v := 1) hx hb dX5_rollback_18 (by decide) ?_
    refine lv_istore_n (lv' := [(2, .int 1), (1, .int 0), (0, .ref (B 0))]) hx hb dX5_rollback_19 rfl hl (by decide) rfl (fun ls hl => ?_)
    exact lp_X5_rollback1 C hNN hP60 P 1 0 1 u1 (by omega) (by rw [eu1]; exact hpk) rfl (by omega) (by rw [eu1]; exact hof) (by rw [eu1]; exact hru) (Or.inl rfl) (by have h9 := c_9; rw [eu1] at h9; unfold mo_rollback; (first | rw [if_pos (show u 0 28 ≤ 0 from h9)] | rw [if_neg (show ¬ u 0 28 ≤ 0 from h9)]); rw [eu1]; show _ = some (Value.int (if mo_rm P 1 (mo_z u) 0 = 0 then 0 else 1)); split <;> rfl) (by have h9 := c_9; rw [eu1] at h9; unfold mo_rollback; (first | rw [if_pos (show u 0 28 ≤ 0 from h9)] | rw [if_neg (show ¬ u 0 28 ≤ 0 from h9)]); rw [eu1]; show _ = if mo_rm P 1 (mo_z u) 0 = 0 then mo_z u else ww_up (mo_rl P 1 (mo_z u)) 0 28 0; split <;> rfl) _ _ _ hN (lv_sub hl [2, 1, 0] rfl)
  · refine lv_iconst (v := 1) hx hb dX5_rollback_12 (by decide) ?_
    refine lv_goto (tgt := 17) hx hb dX5_rollback_13 (by decide) ?_
    refine lv_istore_n (lv' := [(1, .int 1), (0, .ref (B 0))]) hx hb dX5_rollback_17 rfl hl (by decide) rfl (fun ls hl => ?_)
    refine lv_iconst (v := 1) hx hb dX5_rollback_18 (by decide) ?_
    refine lv_istore_n (lv' := [(2, .int 1), (1, .int 1), (0, .ref (B 0))]) hx hb dX5_rollback_19 rfl hl (by decide) rfl (fun ls hl => ?_)
    exact lp_X5_rollback1 C hNN hP60 P 1 1 1 u1 (by omega) (by rw [eu1]; exact hpk) rfl (by omega) (by rw [eu1]; exact hof) (by rw [eu1]; exact hru) (Or.inr rfl) (by have h9 := c_9; rw [eu1] at h9; unfold mo_rollback; (first | rw [if_pos (show u 0 28 ≤ 0 from h9)] | rw [if_neg (show ¬ u 0 28 ≤ 0 from h9)]); rw [eu1]; show _ = some (Value.int (if mo_rm P 1 (mo_z u) 1 = 0 then 0 else 1)); split <;> rfl) (by have h9 := c_9; rw [eu1] at h9; unfold mo_rollback; (first | rw [if_pos (show u 0 28 ≤ 0 from h9)] | rw [if_neg (show ¬ u 0 28 ≤ 0 from h9)]); rw [eu1]; show _ = if mo_rm P 1 (mo_z u) 1 = 0 then mo_z u else ww_up (mo_rl P 1 (mo_z u)) 0 28 0; split <;> rfl) _ _ _ hN (lv_sub hl [2, 1, 0] rfl)
