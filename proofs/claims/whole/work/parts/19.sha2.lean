theorem cl_T_eq (m : Nat) : cl_T m = (m + 8 + 64) / 64 * 64 := rfl
def cl_oct (u : ww_U) (i : Nat) : Int32 := ((u 35 (i / 4)).toUInt32 >>> ((24 - 8 * (nI i &&& 3) : Int32).toUInt32 &&& Int32.toUInt32 31)).toInt32.toInt8.toInt32
set_option maxHeartbeats 4000000 in
set_option maxRecDepth 100000 in
theorem ct_X2_layOut (l : Launch) {D : va_G} {ca : Nat → ClassId} {B : Nat → Nat} {N n : Nat} {X : va_W} {u : ww_U} {cnt : Int32} {mm : Nat} (hm : mm ≤ 256) (hcm : cnt = nI mm) (hNB : 36 ≤ N)  : ww_M l yX2_layOut wsX2_layOut ({ frames := 0, cells := 0, slots := 0, locals := 0 } : Room) D ca B N n X u [.ref (B 32), .ref (B 31), .int cnt] (some (.int (nI (cl_T mm)))) (cl_layOut mm u) := by
  refine ww_met (cc := cX2_layOut) (maxL := 7) (ret := (some .int)) (by decide) rfl (Nat.le_of_ble_eq_true rfl) ?_
  intro p e s m args below meth c C hN ls hl
  have hl : lv_has ls 7 [(0, .ref (B 32)), (1, .ref (B 31)), (2, .int cnt)] := hl
  have hx := C.1.1
  have hb := C.1.2.1
  have hNN : 29 ≤ N := by omega
  refine lv_iload_n hx hb dX2_layOut_0 rfl (lv_at hl 2 rfl) ?_
  refine lv_bipush (v := 8) hx hb dX2_layOut_1 (by decide) ?_
  refine lv_iadd hx hb dX2_layOut_3 ?_
  refine lv_topi (fun v1 ev1 => ?_)
  refine lv_bipush (v := 64) hx hb dX2_layOut_4 (by decide) ?_
  refine lv_iadd hx hb dX2_layOut_6 ?_
  refine lv_topi (fun v2 ev2 => ?_)
  refine lv_bipush (v := 64) hx hb dX2_layOut_7 (by decide) ?_
  refine lv_idiv hx hb dX2_layOut_9 (by decide) ?_
  refine lv_topi (fun v3 ev3 => ?_)
  refine lv_bipush (v := 64) hx hb dX2_layOut_10 (by decide) ?_
  refine lv_imul hx hb dX2_layOut_12 ?_
  refine lv_topi (fun v4 ev4 => ?_)
  refine lv_istore_n (lv' := [(3, .int v4), (0, .ref (B 32)), (1, .ref (B 31)), (2, .int cnt)]) hx hb dX2_layOut_13 rfl hl (by decide) rfl (fun ls hl => ?_)
  refine lv_iconst (v := 0) hx hb dX2_layOut_14 (by decide) ?_
  refine lv_istore (lv' := [(4, .int 0), (3, .int v4), (0, .ref (B 32)), (1, .ref (B 31)), (2, .int cnt)]) hx hb dX2_layOut_15 hl (by decide) rfl (fun ls hl => ?_)
  have htot : v4 = nI (cl_T mm) := by rw [ev4, ev3, ev2, ev1, hcm]; exact (congrArg (fun z : Int32 => (z + 64) / 64 * 64) (nI_add mm 8)).trans ((congrArg (fun z : Int32 => z / 64 * 64) (nI_add (mm + 8) 64)).trans ((congrArg (fun z : Int32 => z * 64) (pk_div (d := 64) (by omega) (by decide) (by decide))).trans (pk_mul _ 64)))
  have hTT := cl_T_eq mm
  exact lp_X2_layOut1 C hNB cnt v4 (mm := mm) (T := cl_T mm) hm (by omega) hcm (by omega) htot (by omega) (cl_T mm) 0 0 u (by omega) rfl (by rw [htot]) rfl _ _ ls hN (lv_sub hl [2, 3, 4, 1, 0] rfl)
set_option maxRecDepth 20000 in
theorem kw_X2_fillSchedule_X2 : ww_K wsX2_fillSchedule RX2 TX2 3 tyX2 := ⟨by decide +kernel, tyX2_ok, nmX2⟩
set_option maxHeartbeats 4000000 in
set_option maxRecDepth 100000 in
theorem lp_X2_fill2 {p : Program} {l : Launch} {e : Env} {s : State} {m : MethodId} {args : Array Value} {below : List Frame} {meth : Method} {c : Code} {D : va_G} {ca : Nat → ClassId} {B : Nat → Nat} {N n : Nat} {X : va_W} (C : ww_C D ca yX2_fillSchedule.cls cX2_fillSchedule 3 wsX2_fillSchedule none (ww_A B N X s.heap.size) p s m args meth c) (hNB : 36 ≤ N) (fr : Int32)  {r : Option Value} {u' : ww_U} : ∀ (d k : Nat) (x : Int32) (u : ww_U), k + d = 64 → (x = nI k) → (16 ≤ k) → r = none → u' = cl_f2 d k u → ∀ (H : Heap) (locs : List Loc) (ls : Array Slot), ww_N D ca B N n u X (ww_A B N X s.heap.size) s.heap H locs → lv_has ls 3 [(0, .ref (B 32)), (1, .int fr), (2, .int x)] → W p l e (headSpec wsX2_fillSchedule ({ frames := 2, cells := 0, slots := 0, locals := 44 } : Room)).room s m args below meth c H locs 0 0 (MQ below (ww_Q D ca B N n X s.heap.size r u') args s 0 0 (ww_A B N X s.heap.size)) (F0 m 32 ls []) := by
  have hx := C.1.1
  have hb := C.1.2.1
  have hNN : 29 ≤ N := by omega
  intro d
  induction d with
  | zero =>
    intro k x u hkd hxk hk16 hr hu H locs ls hN hl
    refine lv_iload_n hx hb dX2_fillSchedule_32 rfl (lv_at hl 2 rfl) ?_
    refine lv_bipush (v := 64) hx hb dX2_fillSchedule_33 (by decide) ?_
    refine lv_icmp_ge (tgt := 105) hx hb dX2_fillSchedule_35 (by decide) (fun c_35 => ?_) (fun c_35 => absurd c_35 (fun h => h (by rw [hxk, show k = 64 by omega]; decide)))
    exact rr_vret C hN dX2_fillSchedule_105 hr hu
  | succ d ih =>
    intro k x u hkd hxk hk16 hr hu H locs ls hN hl
    refine lv_iload_n hx hb dX2_fillSchedule_32 rfl (lv_at hl 2 rfl) ?_
    refine lv_bipush (v := 64) hx hb dX2_fillSchedule_33 (by decide) ?_
    refine lv_icmp_ge (tgt := 105) hx hb dX2_fillSchedule_35 (by decide) (fun c_35 => absurd c_35 (by rw [hxk]; exact (show ¬ nI 64 ≤ nI k from nI_ge (by omega) (by decide)))) (fun c_35 => ?_)
    refine lv_aload_n hx hb dX2_fillSchedule_38 rfl (lv_at hl 0 rfl) ?_
    refine rr_get C hN 32 (Nat.lt_of_lt_of_le (by decide) hNB) rfl rfl kw_X2_fillSchedule_X2 1 (by decide) (List.mem_of_getElem? (i := 1) rfl) (v := .ref (B 34)) rfl dX2_fillSchedule_39 ?_
    refine lv_iload_n hx hb dX2_fillSchedule_42 rfl (lv_at hl 2 rfl) ?_
    refine lv_aload_n hx hb dX2_fillSchedule_43 rfl (lv_at hl 0 rfl) ?_
    refine rr_get C hN 32 (Nat.lt_of_lt_of_le (by decide) hNB) rfl rfl kw_X2_fillSchedule_X2 1 (by decide) (List.mem_of_getElem? (i := 1) rfl) (v := .ref (B 34)) rfl dX2_fillSchedule_44 ?_
    refine lv_iload_n hx hb dX2_fillSchedule_47 rfl (lv_at hl 2 rfl) ?_
    refine lv_bipush (v := 16) hx hb dX2_fillSchedule_48 (by decide) ?_
    refine lv_isub hx hb dX2_fillSchedule_50 ?_
    refine lv_topi (fun vs1 evs1 => ?_)
    refine rr_iald C hN 34 (Nat.lt_of_lt_of_le (by decide) hNB) rfl (by decide) (k - 16) (by omega) (by rw [evs1, hxk]; exact pk_sub (a := k) (b := 16) (by omega)) dX2_fillSchedule_51 ?_
    refine lv_aload_n hx hb dX2_fillSchedule_52 rfl (lv_at hl 0 rfl) ?_
    refine rr_get C hN 32 (Nat.lt_of_lt_of_le (by decide) hNB) rfl rfl kw_X2_fillSchedule_X2 1 (by decide) (List.mem_of_getElem? (i := 1) rfl) (v := .ref (B 34)) rfl dX2_fillSchedule_53 ?_
    refine lv_iload_n hx hb dX2_fillSchedule_56 rfl (lv_at hl 2 rfl) ?_
    refine lv_bipush (v := 15) hx hb dX2_fillSchedule_57 (by decide) ?_
    refine lv_isub hx hb dX2_fillSchedule_59 ?_
    refine lv_topi (fun vs2 evs2 => ?_)
    refine rr_iald C hN 34 (Nat.lt_of_lt_of_le (by decide) hNB) rfl (by decide) (k - 15) (by omega) (by rw [evs2, hxk]; exact pk_sub (a := k) (b := 15) (by omega)) dX2_fillSchedule_60 ?_
    refine lv_bipush (v := 7) hx hb dX2_fillSchedule_61 (by decide) ?_
    refine lv_bipush (v := 18) hx hb dX2_fillSchedule_63 (by decide) ?_
    refine lv_iconst (v := 3) hx hb dX2_fillSchedule_65 (by decide) ?_
    refine rr_callS (As := [.int (u 34 (k - 15)), .int 7, .int 18, .int 3]) C hN (ct_X2_spread l (u 34 (k - 15)) 7 18 3 hNB) gX2_fillSchedule_X2_spread rfl rfl rfl 4 (by decide +kernel) ⟨Nat.le_of_ble_eq_true rfl, Nat.le_of_ble_eq_true rfl⟩ rfl hl.1 rfl (Nat.le_of_ble_eq_true rfl) ⟨Nat.zero_le _, Nat.zero_le _⟩ dX2_fillSchedule_66 (fun H locs hN => ?_)
    refine lv_topi (fun vs3 evs3 => ?_)
    refine lv_iadd hx hb dX2_fillSchedule_69 ?_
    refine lv_topi (fun vs4 evs4 => ?_)
    refine lv_aload_n hx hb dX2_fillSchedule_70 rfl (lv_at hl 0 rfl) ?_
    refine rr_get C hN 32 (Nat.lt_of_lt_of_le (by decide) hNB) rfl rfl kw_X2_fillSchedule_X2 1 (by decide) (List.mem_of_getElem? (i := 1) rfl) (v := .ref (B 34)) rfl dX2_fillSchedule_71 ?_
    refine lv_iload_n hx hb dX2_fillSchedule_74 rfl (lv_at hl 2 rfl) ?_
    refine lv_bipush (v := 7) hx hb dX2_fillSchedule_75 (by decide) ?_
    refine lv_isub hx hb dX2_fillSchedule_77 ?_
    refine lv_topi (fun vs5 evs5 => ?_)
    refine rr_iald C hN 34 (Nat.lt_of_lt_of_le (by decide) hNB) rfl (by decide) (k - 7) (by omega) (by rw [evs5, hxk]; exact pk_sub (a := k) (b := 7) (by omega)) dX2_fillSchedule_78 ?_
    refine lv_iadd hx hb dX2_fillSchedule_79 ?_
    refine lv_topi (fun vs6 evs6 => ?_)
    refine lv_aload_n hx hb dX2_fillSchedule_80 rfl (lv_at hl 0 rfl) ?_
    refine rr_get C hN 32 (Nat.lt_of_lt_of_le (by decide) hNB) rfl rfl kw_X2_fillSchedule_X2 1 (by decide) (List.mem_of_getElem? (i := 1) rfl) (v := .ref (B 34)) rfl dX2_fillSchedule_81 ?_
    refine lv_iload_n hx hb dX2_fillSchedule_84 rfl (lv_at hl 2 rfl) ?_
    refine lv_iconst (v := 2) hx hb dX2_fillSchedule_85 (by decide) ?_
    refine lv_isub hx hb dX2_fillSchedule_86 ?_
    refine lv_topi (fun vs7 evs7 => ?_)
    refine rr_iald C hN 34 (Nat.lt_of_lt_of_le (by decide) hNB) rfl (by decide) (k - 2) (by omega) (by rw [evs7, hxk]; exact pk_sub (a := k) (b := 2) (by omega)) dX2_fillSchedule_87 ?_
    refine lv_bipush (v := 17) hx hb dX2_fillSchedule_88 (by decide) ?_
    refine lv_bipush (v := 19) hx hb dX2_fillSchedule_90 (by decide) ?_
    refine lv_bipush (v := 10) hx hb dX2_fillSchedule_92 (by decide) ?_
    refine rr_callS (As := [.int (u 34 (k - 2)), .int 17, .int 19, .int 10]) C hN (ct_X2_spread l (u 34 (k - 2)) 17 19 10 hNB) gX2_fillSchedule_X2_spread rfl rfl rfl 4 (by decide +kernel) ⟨Nat.le_of_ble_eq_true rfl, Nat.le_of_ble_eq_true rfl⟩ rfl hl.1 rfl (Nat.le_of_ble_eq_true rfl) ⟨Nat.zero_le _, Nat.zero_le _⟩ dX2_fillSchedule_94 (fun H locs hN => ?_)
    refine lv_topi (fun vs8 evs8 => ?_)
    refine lv_iadd hx hb dX2_fillSchedule_97 ?_
    refine lv_topi (fun vs9 evs9 => ?_)
    refine rr_iast C hN 34 (Nat.lt_of_lt_of_le (by decide) hNB) (fun _ => rfl) (by decide) k (by omega) hxk dX2_fillSchedule_98 (fun us10 eus10 H locs hN => ?_)
    obtain ⟨vs11, evs11⟩ : ∃ y9 : Int32, y9 = x + 1 := ⟨_, rfl⟩
    refine lv_iinc (v := vs11) (lv' := [(2, .int vs11), (0, .ref (B 32)), (1, .int fr)]) hx hb dX2_fillSchedule_99 hl (k := 2) rfl (by rw [evs11]; rfl) (by decide) rfl (fun ls hl => ?_)
    refine lv_goto (tgt := 32) hx hb dX2_fillSchedule_102 (by decide) ?_
    exact ih (k + 1) vs11 us10 (by omega) (by rw [evs11, hxk]; exact nI_1 k) (by omega) hr (hu.trans (by subst_vars; simp only [cl_f2])) H locs ls hN (lv_sub hl [1, 2, 0] rfl)
set_option maxHeartbeats 4000000 in
set_option maxRecDepth 100000 in
theorem lp_X2_fill1 {p : Program} {l : Launch} {e : Env} {s : State} {m : MethodId} {args : Array Value} {below : List Frame} {meth : Method} {c : Code} {D : va_G} {ca : Nat → ClassId} {B : Nat → Nat} {N n : Nat} {X : va_W} (C : ww_C D ca yX2_fillSchedule.cls cX2_fillSchedule 3 wsX2_fillSchedule none (ww_A B N X s.heap.size) p s m args meth c) (hNB : 36 ≤ N) (fr : Int32) {f0 : Nat} (hf0 : f0 + 64 ≤ 320) (hfr : fr = nI f0)  {r : Option Value} {u' : ww_U} : ∀ (d k : Nat) (x : Int32) (u : ww_U), k + d = 16 → (x = nI k) → r = none → u' = cl_f2 48 16 (cl_f1 d k f0 u) → ∀ (H : Heap) (locs : List Loc) (ls : Array Slot), ww_N D ca B N n u X (ww_A B N X s.heap.size) s.heap H locs → lv_has ls 3 [(0, .ref (B 32)), (1, .int fr), (2, .int x)] → W p l e (headSpec wsX2_fillSchedule ({ frames := 2, cells := 0, slots := 0, locals := 44 } : Room)).room s m args below meth c H locs 0 0 (MQ below (ww_Q D ca B N n X s.heap.size r u') args s 0 0 (ww_A B N X s.heap.size)) (F0 m 2 ls []) := by
  have hx := C.1.1
  have hb := C.1.2.1
  have hNN : 29 ≤ N := by omega
  intro d
  induction d with
  | zero =>
    intro k x u hkd hxk hr hu H locs ls hN hl
    refine lv_iload_n hx hb dX2_fillSchedule_2 rfl (lv_at hl 2 rfl) ?_
    refine lv_bipush (v := 16) hx hb dX2_fillSchedule_3 (by decide) ?_
    refine lv_icmp_ge (tgt := 29) hx hb dX2_fillSchedule_5 (by decide) (fun c_5 => ?_) (fun c_5 => absurd c_5 (fun h => h (by rw [hxk, show k = 16 by omega]; decide)))
    refine lv_bipush (v := 16) hx hb dX2_fillSchedule_29 (by decide) ?_
    refine lv_istore_n (lv' := [(2, .int 16), (0, .ref (B 32)), (1, .int fr)]) hx hb dX2_fillSchedule_31 rfl hl (by decide) rfl (fun ls hl => ?_)
    exact lp_X2_fill2 C hNB fr 48 16 16 u (by omega) rfl (by omega) hr (hu.trans (by simp only [cl_f1])) H locs ls hN (lv_sub hl [1, 2, 0] rfl)
  | succ d ih =>
    intro k x u hkd hxk hr hu H locs ls hN hl
    refine lv_iload_n hx hb dX2_fillSchedule_2 rfl (lv_at hl 2 rfl) ?_
    refine lv_bipush (v := 16) hx hb dX2_fillSchedule_3 (by decide) ?_
    refine lv_icmp_ge (tgt := 29) hx hb dX2_fillSchedule_5 (by decide) (fun c_5 => absurd c_5 (by rw [hxk]; exact (show ¬ nI 16 ≤ nI k from nI_ge (by omega) (by decide)))) (fun c_5 => ?_)
    refine lv_aload_n hx hb dX2_fillSchedule_8 rfl (lv_at hl 0 rfl) ?_
    refine rr_get C hN 32 (Nat.lt_of_lt_of_le (by decide) hNB) rfl rfl kw_X2_fillSchedule_X2 1 (by decide) (List.mem_of_getElem? (i := 1) rfl) (v := .ref (B 34)) rfl dX2_fillSchedule_9 ?_
    refine lv_iload_n hx hb dX2_fillSchedule_12 rfl (lv_at hl 2 rfl) ?_
    refine lv_aload_n hx hb dX2_fillSchedule_13 rfl (lv_at hl 0 rfl) ?_
    refine lv_iload_n hx hb dX2_fillSchedule_14 rfl (lv_at hl 1 rfl) ?_
    refine lv_iconst (v := 4) hx hb dX2_fillSchedule_15 (by decide) ?_
    refine lv_iload_n hx hb dX2_fillSchedule_16 rfl (lv_at hl 2 rfl) ?_
    refine lv_imul hx hb dX2_fillSchedule_17 ?_
    refine lv_topi (fun vs1 evs1 => ?_)
    refine lv_iadd hx hb dX2_fillSchedule_18 ?_
    refine lv_topi (fun vs2 evs2 => ?_)
    refine rr_callV (As := [.int vs2]) C hN 32 (Nat.lt_of_lt_of_le (by decide) hNB) rfl rfl rfl (ct_X2_wordAt l (j := f0 + 4 * k) (by omega) (by rw [evs2, evs1, hfr, hxk]; exact (congrArg (fun z : Int32 => nI f0 + z) (pk_mul 4 k)).trans (nI_add f0 (4 * k))) hNB) gX2_fillSchedule_X2_wordAt rfl rfl rfl 1 (by decide +kernel) ⟨Nat.le_of_ble_eq_true rfl, Nat.le_of_ble_eq_true rfl⟩ rfl hl.1 rfl (Nat.le_of_ble_eq_true rfl) ⟨Nat.zero_le _, Nat.zero_le _⟩ dX2_fillSchedule_19 (fun H locs hN => ?_)
    refine lv_topi (fun vs3 evs3 => ?_)
    refine rr_iast C hN 34 (Nat.lt_of_lt_of_le (by decide) hNB) (fun _ => rfl) (by decide) k (by omega) hxk dX2_fillSchedule_22 (fun us4 eus4 H locs hN => ?_)
    obtain ⟨vs5, evs5⟩ : ∃ y9 : Int32, y9 = x + 1 := ⟨_, rfl⟩
    refine lv_iinc (v := vs5) (lv' := [(2, .int vs5), (0, .ref (B 32)), (1, .int fr)]) hx hb dX2_fillSchedule_23 hl (k := 2) rfl (by rw [evs5]; rfl) (by decide) rfl (fun ls hl => ?_)
    refine lv_goto (tgt := 2) hx hb dX2_fillSchedule_26 (by decide) ?_
    exact ih (k + 1) vs5 us4 (by omega) (by rw [evs5, hxk]; exact nI_1 k) hr (hu.trans (by subst_vars; simp only [cl_f1])) H locs ls hN (lv_sub hl [1, 2, 0] rfl)
set_option maxHeartbeats 4000000 in
set_option maxRecDepth 100000 in
theorem ct_X2_fillSchedule (l : Launch) {D : va_G} {ca : Nat → ClassId} {B : Nat → Nat} {N n : Nat} {X : va_W} {u : ww_U} {x : Int32} {f0 : Nat} (hf0 : f0 + 64 ≤ 320) (hfr : x = nI f0) (hNB : 36 ≤ N)  : ww_M l yX2_fillSchedule wsX2_fillSchedule ({ frames := 2, cells := 0, slots := 0, locals := 44 } : Room) D ca B N n X u [.ref (B 32), .int x] none (cl_fill f0 u) := by
  refine ww_met (cc := cX2_fillSchedule) (maxL := 3) (ret := none) (by decide) rfl (Nat.le_of_ble_eq_true rfl) ?_
  intro p e s m args below meth c C hN ls hl
  have hl : lv_has ls 3 [(0, .ref (B 32)), (1, .int x)] := hl
  have hx := C.1.1
  have hb := C.1.2.1
  have hNN : 29 ≤ N := by omega
  refine lv_iconst (v := 0) hx hb dX2_fillSchedule_0 (by decide) ?_
  refine lv_istore_n (lv' := [(2, .int 0), (0, .ref (B 32)), (1, .int x)]) hx hb dX2_fillSchedule_1 rfl hl (by decide) rfl (fun ls hl => ?_)
  exact lp_X2_fill1 C hNB x hf0 hfr 16 0 0 u (by omega) rfl rfl rfl _ _ _ hN (lv_sub hl [1, 2, 0] rfl)
set_option maxRecDepth 20000 in
theorem kw_X2_mix_X2 : ww_K wsX2_mix RX2 TX2 3 tyX2 := ⟨by decide +kernel, tyX2_ok, nmX2⟩
set_option maxHeartbeats 4000000 in
set_option maxRecDepth 100000 in
theorem lp_X2_mix {p : Program} {l : Launch} {e : Env} {s : State} {m : MethodId} {args : Array Value} {below : List Frame} {meth : Method} {c : Code} {D : va_G} {ca : Nat → ClassId} {B : Nat → Nat} {N n : Nat} {X : va_W} (C : ww_C D ca yX2_mix.cls cX2_mix 12 wsX2_mix none (ww_A B N X s.heap.size) p s m args meth c) (hNB : 36 ≤ N)   {r : Option Value} {u' : ww_U} : ∀ (d k : Nat) (a1 : Int32) (a2 : Int32) (a3 : Int32) (a4 : Int32) (a5 : Int32) (a6 : Int32) (a7 : Int32) (a8 : Int32) (x : Int32) (u : ww_U), k + d = 64 → (x = nI k) → r = none → u' = cl_mix d k u a1 a2 a3 a4 a5 a6 a7 a8 → ∀ (H : Heap) (locs : List Loc) (ls : Array Slot), ww_N D ca B N n u X (ww_A B N X s.heap.size) s.heap H locs → lv_has ls 12 [(0, .ref (B 32)), (1, .int a1), (2, .int a2), (3, .int a3), (4, .int a4), (5, .int a5), (6, .int a6), (7, .int a7), (8, .int a8), (9, .int x)] → W p l e (headSpec wsX2_mix ({ frames := 2, cells := 0, slots := 0, locals := 44 } : Room)).room s m args below meth c H locs 0 0 (MQ below (ww_Q D ca B N n X s.heap.size r u') args s 0 0 (ww_A B N X s.heap.size)) (F0 m 66 ls []) := by
  have hx := C.1.1
  have hb := C.1.2.1
  have hNN : 29 ≤ N := by omega
  intro d
  induction d with
  | zero =>
    intro k a1 a2 a3 a4 a5 a6 a7 a8 x u hkd hxk hr hu H locs ls hN hl
    obtain ⟨t1, t2, ⟨hZ1, hT1⟩, hZ2, hT2⟩ := C.2.2.2.2.2
    refine lv_iload hx hb dX2_mix_66 (lv_at hl 9 rfl) ?_
    refine lv_bipush (v := 64) hx hb dX2_mix_68 (by decide) ?_
    refine lv_icmp_ge (tgt := 179) hx hb dX2_mix_70 (by decide) (fun c_70 => ?_) (fun c_70 => absurd c_70 (fun h => h (by rw [hxk, show k = 64 by omega]; decide)))
    refine lv_aload_n hx hb dX2_mix_179 rfl (lv_at hl 0 rfl) ?_
    refine rr_get C hN 32 (Nat.lt_of_lt_of_le (by decide) hNB) rfl rfl kw_X2_mix_X2 2 (by decide) (List.mem_of_getElem? (i := 1) rfl) (v := .ref (B 35)) rfl dX2_mix_180 ?_
    refine lv_iconst (v := 0) hx hb dX2_mix_183 (by decide) ?_
    refine lv_dup2_11 hx hb dX2_mix_184 rfl rfl ?_
    refine rr_iald C hN 35 (Nat.lt_of_lt_of_le (by decide) hNB) rfl (by decide) 0 (by decide) rfl dX2_mix_185 ?_
    refine lv_iload_n hx hb dX2_mix_186 rfl (lv_at hl 1 rfl) ?_
    refine lv_iadd hx hb dX2_mix_187 ?_
    refine lv_topi (fun vz1 evz1 => ?_)
    refine rr_iast C hN 35 (Nat.lt_of_lt_of_le (by decide) hNB) (fun _ => rfl) (by decide) 0 (by decide) rfl dX2_mix_188 (fun uz2 euz2 H locs hN => ?_)
    refine lv_aload_n hx hb dX2_mix_189 rfl (lv_at hl 0 rfl) ?_
    refine rr_get C hN 32 (Nat.lt_of_lt_of_le (by decide) hNB) rfl rfl kw_X2_mix_X2 2 (by decide) (List.mem_of_getElem? (i := 1) rfl) (v := .ref (B 35)) rfl dX2_mix_190 ?_
    refine lv_iconst (v := 1) hx hb dX2_mix_193 (by decide) ?_
    refine lv_dup2_11 hx hb dX2_mix_194 rfl rfl ?_
    refine rr_iald C hN 35 (Nat.lt_of_lt_of_le (by decide) hNB) rfl (by decide) 1 (by decide) rfl dX2_mix_195 ?_
    refine lv_iload_n hx hb dX2_mix_196 rfl (lv_at hl 2 rfl) ?_
    refine lv_iadd hx hb dX2_mix_197 ?_
    refine lv_topi (fun vz3 evz3 => ?_)
    refine rr_iast C hN 35 (Nat.lt_of_lt_of_le (by decide) hNB) (fun _ => rfl) (by decide) 1 (by decide) rfl dX2_mix_198 (fun uz4 euz4 H locs hN => ?_)
    refine lv_aload_n hx hb dX2_mix_199 rfl (lv_at hl 0 rfl) ?_
    refine rr_get C hN 32 (Nat.lt_of_lt_of_le (by decide) hNB) rfl rfl kw_X2_mix_X2 2 (by decide) (List.mem_of_getElem? (i := 1) rfl) (v := .ref (B 35)) rfl dX2_mix_200 ?_
    refine lv_iconst (v := 2) hx hb dX2_mix_203 (by decide) ?_
    refine lv_dup2_11 hx hb dX2_mix_204 rfl rfl ?_
    refine rr_iald C hN 35 (Nat.lt_of_lt_of_le (by decide) hNB) rfl (by decide) 2 (by decide) rfl dX2_mix_205 ?_
    refine lv_iload_n hx hb dX2_mix_206 rfl (lv_at hl 3 rfl) ?_
    refine lv_iadd hx hb dX2_mix_207 ?_
    refine lv_topi (fun vz5 evz5 => ?_)
    refine rr_iast C hN 35 (Nat.lt_of_lt_of_le (by decide) hNB) (fun _ => rfl) (by decide) 2 (by decide) rfl dX2_mix_208 (fun uz6 euz6 H locs hN => ?_)
    refine lv_aload_n hx hb dX2_mix_209 rfl (lv_at hl 0 rfl) ?_
    refine rr_get C hN 32 (Nat.lt_of_lt_of_le (by decide) hNB) rfl rfl kw_X2_mix_X2 2 (by decide) (List.mem_of_getElem? (i := 1) rfl) (v := .ref (B 35)) rfl dX2_mix_210 ?_
    refine lv_iconst (v := 3) hx hb dX2_mix_213 (by decide) ?_
    refine lv_dup2_11 hx hb dX2_mix_214 rfl rfl ?_
    refine rr_iald C hN 35 (Nat.lt_of_lt_of_le (by decide) hNB) rfl (by decide) 3 (by decide) rfl dX2_mix_215 ?_
    refine lv_iload hx hb dX2_mix_216 (lv_at hl 4 rfl) ?_
    refine lv_iadd hx hb dX2_mix_218 ?_
    refine lv_topi (fun vz7 evz7 => ?_)
    refine rr_iast C hN 35 (Nat.lt_of_lt_of_le (by decide) hNB) (fun _ => rfl) (by decide) 3 (by decide) rfl dX2_mix_219 (fun uz8 euz8 H locs hN => ?_)
    refine lv_aload_n hx hb dX2_mix_220 rfl (lv_at hl 0 rfl) ?_
    refine rr_get C hN 32 (Nat.lt_of_lt_of_le (by decide) hNB) rfl rfl kw_X2_mix_X2 2 (by decide) (List.mem_of_getElem? (i := 1) rfl) (v := .ref (B 35)) rfl dX2_mix_221 ?_
    refine lv_iconst (v := 4) hx hb dX2_mix_224 (by decide) ?_
    refine lv_dup2_11 hx hb dX2_mix_225 rfl rfl ?_
    refine rr_iald C hN 35 (Nat.lt_of_lt_of_le (by decide) hNB) rfl (by decide) 4 (by decide) rfl dX2_mix_226 ?_
    refine lv_iload hx hb dX2_mix_227 (lv_at hl 5 rfl) ?_
    refine lv_iadd hx hb dX2_mix_229 ?_
    refine lv_topi (fun vz9 evz9 => ?_)
    refine rr_iast C hN 35 (Nat.lt_of_lt_of_le (by decide) hNB) (fun _ => rfl) (by decide) 4 (by decide) rfl dX2_mix_230 (fun uz10 euz10 H locs hN => ?_)
    refine lv_aload_n hx hb dX2_mix_231 rfl (lv_at hl 0 rfl) ?_
    refine rr_get C hN 32 (Nat.lt_of_lt_of_le (by decide) hNB) rfl rfl kw_X2_mix_X2 2 (by decide) (List.mem_of_getElem? (i := 1) rfl) (v := .ref (B 35)) rfl dX2_mix_232 ?_
    refine lv_iconst (v := 5) hx hb dX2_mix_235 (by decide) ?_
    refine lv_dup2_11 hx hb dX2_mix_236 rfl rfl ?_
    refine rr_iald C hN 35 (Nat.lt_of_lt_of_le (by decide) hNB) rfl (by decide) 5 (by decide) rfl dX2_mix_237 ?_
    refine lv_iload hx hb dX2_mix_238 (lv_at hl 6 rfl) ?_
    refine lv_iadd hx hb dX2_mix_240 ?_
    refine lv_topi (fun vz11 evz11 => ?_)
    refine rr_iast C hN 35 (Nat.lt_of_lt_of_le (by decide) hNB) (fun _ => rfl) (by decide) 5 (by decide) rfl dX2_mix_241 (fun uz12 euz12 H locs hN => ?_)
    refine lv_aload_n hx hb dX2_mix_242 rfl (lv_at hl 0 rfl) ?_
    refine rr_get C hN 32 (Nat.lt_of_lt_of_le (by decide) hNB) rfl rfl kw_X2_mix_X2 2 (by decide) (List.mem_of_getElem? (i := 1) rfl) (v := .ref (B 35)) rfl dX2_mix_243 ?_
    refine lv_bipush (v := 6) hx hb dX2_mix_246 (by decide) ?_
    refine lv_dup2_11 hx hb dX2_mix_248 rfl rfl ?_
    refine rr_iald C hN 35 (Nat.lt_of_lt_of_le (by decide) hNB) rfl (by decide) 6 (by decide) rfl dX2_mix_249 ?_
    refine lv_iload hx hb dX2_mix_250 (lv_at hl 7 rfl) ?_
    refine lv_iadd hx hb dX2_mix_252 ?_
    refine lv_topi (fun vz13 evz13 => ?_)
    refine rr_iast C hN 35 (Nat.lt_of_lt_of_le (by decide) hNB) (fun _ => rfl) (by decide) 6 (by decide) rfl dX2_mix_253 (fun uz14 euz14 H locs hN => ?_)
    refine lv_aload_n hx hb dX2_mix_254 rfl (lv_at hl 0 rfl) ?_
    refine rr_get C hN 32 (Nat.lt_of_lt_of_le (by decide) hNB) rfl rfl kw_X2_mix_X2 2 (by decide) (List.mem_of_getElem? (i := 1) rfl) (v := .ref (B 35)) rfl dX2_mix_255 ?_
    refine lv_bipush (v := 7) hx hb dX2_mix_258 (by decide) ?_
    refine lv_dup2_11 hx hb dX2_mix_260 rfl rfl ?_
    refine rr_iald C hN 35 (Nat.lt_of_lt_of_le (by decide) hNB) rfl (by decide) 7 (by decide) rfl dX2_mix_261 ?_
    refine lv_iload hx hb dX2_mix_262 (lv_at hl 8 rfl) ?_
    refine lv_iadd hx hb dX2_mix_264 ?_
    refine lv_topi (fun vz15 evz15 => ?_)
    refine rr_iast C hN 35 (Nat.lt_of_lt_of_le (by decide) hNB) (fun _ => rfl) (by decide) 7 (by decide) rfl dX2_mix_265 (fun uz16 euz16 H locs hN => ?_)
    have huz2 : uz2 = cl_add u 0 a1 := by rw [euz2, evz1]; rfl
    have huz4 : uz4 = cl_add uz2 1 a2 := by rw [euz4, evz3]; rfl
    have huz6 : uz6 = cl_add uz4 2 a3 := by rw [euz6, evz5]; rfl
    have huz8 : uz8 = cl_add uz6 3 a4 := by rw [euz8, evz7]; rfl
    have huz10 : uz10 = cl_add uz8 4 a5 := by rw [euz10, evz9]; rfl
    have huz12 : uz12 = cl_add uz10 5 a6 := by rw [euz12, evz11]; rfl
    have huz14 : uz14 = cl_add uz12 6 a7 := by rw [euz14, evz13]; rfl
    have huz16 : uz16 = cl_add uz14 7 a8 := by rw [euz16, evz15]; rfl
    exact rr_vret C hN dX2_mix_266 hr (hu.trans (by rw [huz16, huz14, huz12, huz10, huz8, huz6, huz4, huz2]; rfl))
  | succ d ih =>
    intro k a1 a2 a3 a4 a5 a6 a7 a8 x u hkd hxk hr hu H locs ls hN hl
    obtain ⟨t1, t2, ⟨hZ1, hT1⟩, hZ2, hT2⟩ := C.2.2.2.2.2
    refine lv_iload hx hb dX2_mix_66 (lv_at hl 9 rfl) ?_
    refine lv_bipush (v := 64) hx hb dX2_mix_68 (by decide) ?_
    refine lv_icmp_ge (tgt := 179) hx hb dX2_mix_70 (by decide) (fun c_70 => absurd c_70 (by rw [hxk]; exact (show ¬ nI 64 ≤ nI k from nI_ge (by omega) (by decide)))) (fun c_70 => ?_)
    refine lv_iload hx hb dX2_mix_73 (lv_at hl 8 rfl) ?_
    refine lv_iload hx hb dX2_mix_75 (lv_at hl 5 rfl) ?_
    refine lv_bipush (v := 6) hx hb dX2_mix_77 (by decide) ?_
    refine lv_bipush (v := 11) hx hb dX2_mix_79 (by decide) ?_
    refine lv_bipush (v := 25) hx hb dX2_mix_81 (by decide) ?_
    refine rr_callS (As := [.int a5, .int 6, .int 11, .int 25]) C hN (ct_X2_turns l a5 6 11 25 hNB) gX2_mix_X2_turns rfl rfl rfl 4 (by decide +kernel) ⟨Nat.le_of_ble_eq_true rfl, Nat.le_of_ble_eq_true rfl⟩ rfl hl.1 rfl (Nat.le_of_ble_eq_true rfl) ⟨Nat.zero_le _, Nat.zero_le _⟩ dX2_mix_83 (fun H locs hN => ?_)
    refine lv_topi (fun vs1 evs1 => ?_)
    refine lv_iadd hx hb dX2_mix_86 ?_
    refine lv_topi (fun vs2 evs2 => ?_)
    refine lv_iload hx hb dX2_mix_87 (lv_at hl 5 rfl) ?_
    refine lv_iload hx hb dX2_mix_89 (lv_at hl 6 rfl) ?_
    refine lv_iand hx hb dX2_mix_91 ?_
    refine lv_topi (fun vs3 evs3 => ?_)
    refine lv_iload hx hb dX2_mix_92 (lv_at hl 5 rfl) ?_
    refine lv_iconst (v := (-1)) hx hb dX2_mix_94 (by decide) ?_
    refine lv_ixor hx hb dX2_mix_95 ?_
    refine lv_topi (fun vs4 evs4 => ?_)
    refine lv_iload hx hb dX2_mix_96 (lv_at hl 7 rfl) ?_
    refine lv_iand hx hb dX2_mix_98 ?_
    refine lv_topi (fun vs5 evs5 => ?_)
    refine lv_ixor hx hb dX2_mix_99 ?_
    refine lv_topi (fun vs6 evs6 => ?_)
    refine lv_iadd hx hb dX2_mix_100 ?_
    refine lv_topi (fun vs7 evs7 => ?_)
    refine rr_gets C hN hZ2 (List.mem_of_getElem? (i := 2) rfl) dX2_mix_101 ?_
    refine lv_iload hx hb dX2_mix_104 (lv_at hl 9 rfl) ?_
    refine rr_tald C hN hT2 (by decide) k (by omega) hxk dX2_mix_106 ?_
    refine lv_iadd hx hb dX2_mix_107 ?_
    refine lv_topi (fun vs8 evs8 => ?_)
    refine lv_aload_n hx hb dX2_mix_108 rfl (lv_at hl 0 rfl) ?_
    refine rr_get C hN 32 (Nat.lt_of_lt_of_le (by decide) hNB) rfl rfl kw_X2_mix_X2 1 (by decide) (List.mem_of_getElem? (i := 3) rfl) (v := .ref (B 34)) rfl dX2_mix_109 ?_
    refine lv_iload hx hb dX2_mix_112 (lv_at hl 9 rfl) ?_
    refine rr_iald C hN 34 (Nat.lt_of_lt_of_le (by decide) hNB) rfl (by decide) k (by omega) hxk dX2_mix_114 ?_
    refine lv_iadd hx hb dX2_mix_115 ?_
    refine lv_topi (fun vs9 evs9 => ?_)
    refine lv_istore (lv' := [(10, .int vs9), (0, .ref (B 32)), (1, .int a1), (2, .int a2), (3, .int a3), (4, .int a4), (5, .int a5), (6, .int a6), (7, .int a7), (8, .int a8), (9, .int x)]) hx hb dX2_mix_116 hl (by decide) rfl (fun ls hl => ?_)
    refine lv_iload_n hx hb dX2_mix_118 rfl (lv_at hl 2 rfl) ?_
    refine lv_iconst (v := 2) hx hb dX2_mix_119 (by decide) ?_
    refine lv_bipush (v := 13) hx hb dX2_mix_120 (by decide) ?_
    refine lv_bipush (v := 22) hx hb dX2_mix_122 (by decide) ?_
    refine rr_callS (As := [.int a1, .int 2, .int 13, .int 22]) C hN (ct_X2_turns l a1 2 13 22 hNB) gX2_mix_X2_turns rfl rfl rfl 4 (by decide +kernel) ⟨Nat.le_of_ble_eq_true rfl, Nat.le_of_ble_eq_true rfl⟩ rfl hl.1 rfl (Nat.le_of_ble_eq_true rfl) ⟨Nat.zero_le _, Nat.zero_le _⟩ dX2_mix_124 (fun H locs hN => ?_)
    refine lv_topi (fun vs10 evs10 => ?_)
    refine lv_iload_n hx hb dX2_mix_127 rfl (lv_at hl 2 rfl) ?_
    refine lv_iload_n hx hb dX2_mix_128 rfl (lv_at hl 3 rfl) ?_
    refine lv_iand hx hb dX2_mix_129 ?_
    refine lv_topi (fun vs11 evs11 => ?_)
    refine lv_iload_n hx hb dX2_mix_130 rfl (lv_at hl 2 rfl) ?_
    refine lv_iload_n hx hb dX2_mix_131 rfl (lv_at hl 4 rfl) ?_
    refine lv_iand hx hb dX2_mix_132 ?_
    refine lv_topi (fun vs12 evs12 => ?_)
    refine lv_ixor hx hb dX2_mix_133 ?_
    refine lv_topi (fun vs13 evs13 => ?_)
    refine lv_iload_n hx hb dX2_mix_134 rfl (lv_at hl 3 rfl) ?_
    refine lv_iload_n hx hb dX2_mix_135 rfl (lv_at hl 4 rfl) ?_
    refine lv_iand hx hb dX2_mix_136 ?_
    refine lv_topi (fun vs14 evs14 => ?_)
    refine lv_ixor hx hb dX2_mix_137 ?_
    refine lv_topi (fun vs15 evs15 => ?_)
    refine lv_iadd hx hb dX2_mix_138 ?_
    refine lv_topi (fun vs16 evs16 => ?_)
    refine lv_istore (lv' := [(11, .int vs16), (10, .int vs9), (0, .ref (B 32)), (1, .int a1), (2, .int a2), (3, .int a3), (4, .int a4), (5, .int a5), (6, .int a6), (7, .int a7), (8, .int a8), (9, .int x)]) hx hb dX2_mix_139 hl (by decide) rfl (fun ls hl => ?_)
    refine lv_iload hx hb dX2_mix_141 (lv_at hl 9 rfl) ?_
    refine lv_istore (lv' := [(8, .int a7), (11, .int vs16), (10, .int vs9), (0, .ref (B 32)), (1, .int a1), (2, .int a2), (3, .int a3), (4, .int a4), (5, .int a5), (6, .int a6), (7, .int a7), (9, .int x)]) hx hb dX2_mix_143 hl (by decide) rfl (fun ls hl => ?_)
    refine lv_iload hx hb dX2_mix_145 (lv_at hl 9 rfl) ?_
    refine lv_istore (lv' := [(7, .int a6), (8, .int a7), (11, .int vs16), (10, .int vs9), (0, .ref (B 32)), (1, .int a1), (2, .int a2), (3, .int a3), (4, .int a4), (5, .int a5), (6, .int a6), (9, .int x)]) hx hb dX2_mix_147 hl (by decide) rfl (fun ls hl => ?_)
    refine lv_iload hx hb dX2_mix_149 (lv_at hl 9 rfl) ?_
    refine lv_istore (lv' := [(6, .int a5), (7, .int a6), (8, .int a7), (11, .int vs16), (10, .int vs9), (0, .ref (B 32)), (1, .int a1), (2, .int a2), (3, .int a3), (4, .int a4), (5, .int a5), (9, .int x)]) hx hb dX2_mix_151 hl (by decide) rfl (fun ls hl => ?_)
    refine lv_iload hx hb dX2_mix_153 (lv_at hl 9 rfl) ?_
    refine lv_iload hx hb dX2_mix_155 (lv_at hl 4 rfl) ?_
    refine lv_iadd hx hb dX2_mix_157 ?_
    refine lv_topi (fun vs17 evs17 => ?_)
    refine lv_istore (lv' := [(5, .int vs17), (6, .int a5), (7, .int a6), (8, .int a7), (11, .int vs16), (10, .int vs9), (0, .ref (B 32)), (1, .int a1), (2, .int a2), (3, .int a3), (4, .int a4), (9, .int x)]) hx hb dX2_mix_158 hl (by decide) rfl (fun ls hl => ?_)
    refine lv_iload_n hx hb dX2_mix_160 rfl (lv_at hl 9 rfl) ?_
    refine lv_istore (lv' := [(4, .int a3), (5, .int vs17), (6, .int a5), (7, .int a6), (8, .int a7), (11, .int vs16), (10, .int vs9), (0, .ref (B 32)), (1, .int a1), (2, .int a2), (3, .int a3), (9, .int x)]) hx hb dX2_mix_161 hl (by decide) rfl (fun ls hl => ?_)
    refine lv_iload_n hx hb dX2_mix_163 rfl (lv_at hl 9 rfl) ?_
    refine lv_istore_n (lv' := [(3, .int a2), (4, .int a3), (5, .int vs17), (6, .int a5), (7, .int a6), (8, .int a7), (11, .int vs16), (10, .int vs9), (0, .ref (B 32)), (1, .int a1), (2, .int a2), (9, .int x)]) hx hb dX2_mix_164 rfl hl (by decide) rfl (fun ls hl => ?_)
    refine lv_iload_n hx hb dX2_mix_165 rfl (lv_at hl 9 rfl) ?_
    refine lv_istore_n (lv' := [(2, .int a1), (3, .int a2), (4, .int a3), (5, .int vs17), (6, .int a5), (7, .int a6), (8, .int a7), (11, .int vs16), (10, .int vs9), (0, .ref (B 32)), (1, .int a1), (9, .int x)]) hx hb dX2_mix_166 rfl hl (by decide) rfl (fun ls hl => ?_)
    refine lv_iload hx hb dX2_mix_167 (lv_at hl 8 rfl) ?_
    refine lv_iload hx hb dX2_mix_169 (lv_at hl 7 rfl) ?_
    refine lv_iadd hx hb dX2_mix_171 ?_
    refine lv_topi (fun vs18 evs18 => ?_)
    refine lv_istore_n (lv' := [(1, .int vs18), (2, .int a1), (3, .int a2), (4, .int a3), (5, .int vs17), (6, .int a5), (7, .int a6), (8, .int a7), (11, .int vs16), (10, .int vs9), (0, .ref (B 32)), (9, .int x)]) hx hb dX2_mix_172 rfl hl (by decide) rfl (fun ls hl => ?_)
    obtain ⟨vs19, evs19⟩ : ∃ y9 : Int32, y9 = x + 1 := ⟨_, rfl⟩
    refine lv_iinc (v := vs19) (lv' := [(9, .int vs19), (1, .int vs18), (2, .int a1), (3, .int a2), (4, .int a3), (5, .int vs17), (6, .int a5), (7, .int a6), (8, .int a7), (11, .int vs16), (10, .int vs9), (0, .ref (B 32))]) hx hb dX2_mix_173 hl (k := 11) rfl (by rw [evs19]; rfl) (by decide) rfl (fun ls hl => ?_)
    refine lv_goto (tgt := 66) hx hb dX2_mix_176 (by decide) ?_
    exact ih (k + 1) vs18 a1 a2 a3 vs17 a5 a6 a7 vs19 u (by omega) (by rw [evs19, hxk]; exact nI_1 k) hr (hu.trans (by subst_vars; simp only [cl_mix, sh_x, sh_y])) H locs ls hN (lv_sub hl [11, 1, 2, 3, 4, 5, 6, 7, 8, 0] rfl)
set_option maxHeartbeats 4000000 in
set_option maxRecDepth 100000 in
theorem ct_X2_mix (l : Launch) {D : va_G} {ca : Nat → ClassId} {B : Nat → Nat} {N n : Nat} {X : va_W} {u : ww_U}  (hNB : 36 ≤ N)  : ww_M l yX2_mix wsX2_mix ({ frames := 2, cells := 0, slots := 0, locals := 44 } : Room) D ca B N n X u [.ref (B 32)] none (cl_mx u) := by
  refine ww_met (cc := cX2_mix) (maxL := 12) (ret := none) (by decide) rfl (Nat.le_of_ble_eq_true rfl) ?_
  intro p e s m args below meth c C hN ls hl
  have hl : lv_has ls 12 [(0, .ref (B 32))] := hl
  have hx := C.1.1
  have hb := C.1.2.1
  have hNN : 29 ≤ N := by omega
  refine lv_aload_n hx hb dX2_mix_0 rfl (lv_at hl 0 rfl) ?_
  refine rr_get C hN 32 (Nat.lt_of_lt_of_le (by decide) hNB) rfl rfl kw_X2_mix_X2 2 (by decide) (List.mem_of_getElem? (i := 1) rfl) (v := .ref (B 35)) rfl dX2_mix_1 ?_
  refine lv_iconst (v := 0) hx hb dX2_mix_4 (by decide) ?_
  refine rr_iald C hN 35 (Nat.lt_of_lt_of_le (by decide) hNB) rfl (by decide) 0 (by decide) rfl dX2_mix_5 ?_
  refine lv_istore_n (lv' := [(1, .int (u 35 0)), (0, .ref (B 32))]) hx hb dX2_mix_6 rfl hl (by decide) rfl (fun ls hl => ?_)
  refine lv_aload_n hx hb dX2_mix_7 rfl (lv_at hl 1 rfl) ?_
  refine rr_get C hN 32 (Nat.lt_of_lt_of_le (by decide) hNB) rfl rfl kw_X2_mix_X2 2 (by decide) (List.mem_of_getElem? (i := 1) rfl) (v := .ref (B 35)) rfl dX2_mix_8 ?_
  refine lv_iconst (v := 1) hx hb dX2_mix_11 (by decide) ?_
  refine rr_iald C hN 35 (Nat.lt_of_lt_of_le (by decide) hNB) rfl (by decide) 1 (by decide) rfl dX2_mix_12 ?_
  refine lv_istore_n (lv' := [(2, .int (u 35 1)), (1, .int (u 35 0)), (0, .ref (B 32))]) hx hb dX2_mix_13 rfl hl (by decide) rfl (fun ls hl => ?_)
  refine lv_aload_n hx hb dX2_mix_14 rfl (lv_at hl 2 rfl) ?_
  refine rr_get C hN 32 (Nat.lt_of_lt_of_le (by decide) hNB) rfl rfl kw_X2_mix_X2 2 (by decide) (List.mem_of_getElem? (i := 1) rfl) (v := .ref (B 35)) rfl dX2_mix_15 ?_
  refine lv_iconst (v := 2) hx hb dX2_mix_18 (by decide) ?_
  refine rr_iald C hN 35 (Nat.lt_of_lt_of_le (by decide) hNB) rfl (by decide) 2 (by decide) rfl dX2_mix_19 ?_
  refine lv_istore_n (lv' := [(3, .int (u 35 2)), (2, .int (u 35 1)), (1, .int (u 35 0)), (0, .ref (B 32))]) hx hb dX2_mix_20 rfl hl (by decide) rfl (fun ls hl => ?_)
  refine lv_aload_n hx hb dX2_mix_21 rfl (lv_at hl 3 rfl) ?_
  refine rr_get C hN 32 (Nat.lt_of_lt_of_le (by decide) hNB) rfl rfl kw_X2_mix_X2 2 (by decide) (List.mem_of_getElem? (i := 1) rfl) (v := .ref (B 35)) rfl dX2_mix_22 ?_
  refine lv_iconst (v := 3) hx hb dX2_mix_25 (by decide) ?_
  refine rr_iald C hN 35 (Nat.lt_of_lt_of_le (by decide) hNB) rfl (by decide) 3 (by decide) rfl dX2_mix_26 ?_
  refine lv_istore (lv' := [(4, .int (u 35 3)), (3, .int (u 35 2)), (2, .int (u 35 1)), (1, .int (u 35 0)), (0, .ref (B 32))]) hx hb dX2_mix_27 hl (by decide) rfl (fun ls hl => ?_)
  refine lv_aload_n hx hb dX2_mix_29 rfl (lv_at hl 4 rfl) ?_
  refine rr_get C hN 32 (Nat.lt_of_lt_of_le (by decide) hNB) rfl rfl kw_X2_mix_X2 2 (by decide) (List.mem_of_getElem? (i := 1) rfl) (v := .ref (B 35)) rfl dX2_mix_30 ?_
  refine lv_iconst (v := 4) hx hb dX2_mix_33 (by decide) ?_
  refine rr_iald C hN 35 (Nat.lt_of_lt_of_le (by decide) hNB) rfl (by decide) 4 (by decide) rfl dX2_mix_34 ?_
  refine lv_istore (lv' := [(5, .int (u 35 4)), (4, .int (u 35 3)), (3, .int (u 35 2)), (2, .int (u 35 1)), (1, .int (u 35 0)), (0, .ref (B 32))]) hx hb dX2_mix_35 hl (by decide) rfl (fun ls hl => ?_)
  refine lv_aload_n hx hb dX2_mix_37 rfl (lv_at hl 5 rfl) ?_
  refine rr_get C hN 32 (Nat.lt_of_lt_of_le (by decide) hNB) rfl rfl kw_X2_mix_X2 2 (by decide) (List.mem_of_getElem? (i := 1) rfl) (v := .ref (B 35)) rfl dX2_mix_38 ?_
  refine lv_iconst (v := 5) hx hb dX2_mix_41 (by decide) ?_
  refine rr_iald C hN 35 (Nat.lt_of_lt_of_le (by decide) hNB) rfl (by decide) 5 (by decide) rfl dX2_mix_42 ?_
  refine lv_istore (lv' := [(6, .int (u 35 5)), (5, .int (u 35 4)), (4, .int (u 35 3)), (3, .int (u 35 2)), (2, .int (u 35 1)), (1, .int (u 35 0)), (0, .ref (B 32))]) hx hb dX2_mix_43 hl (by decide) rfl (fun ls hl => ?_)
  refine lv_aload_n hx hb dX2_mix_45 rfl (lv_at hl 6 rfl) ?_
  refine rr_get C hN 32 (Nat.lt_of_lt_of_le (by decide) hNB) rfl rfl kw_X2_mix_X2 2 (by decide) (List.mem_of_getElem? (i := 1) rfl) (v := .ref (B 35)) rfl dX2_mix_46 ?_
  refine lv_bipush (v := 6) hx hb dX2_mix_49 (by decide) ?_
  refine rr_iald C hN 35 (Nat.lt_of_lt_of_le (by decide) hNB) rfl (by decide) 6 (by decide) rfl dX2_mix_51 ?_
  refine lv_istore (lv' := [(7, .int (u 35 6)), (6, .int (u 35 5)), (5, .int (u 35 4)), (4, .int (u 35 3)), (3, .int (u 35 2)), (2, .int (u 35 1)), (1, .int (u 35 0)), (0, .ref (B 32))]) hx hb dX2_mix_52 hl (by decide) rfl (fun ls hl => ?_)
  refine lv_aload_n hx hb dX2_mix_54 rfl (lv_at hl 7 rfl) ?_
  refine rr_get C hN 32 (Nat.lt_of_lt_of_le (by decide) hNB) rfl rfl kw_X2_mix_X2 2 (by decide) (List.mem_of_getElem? (i := 1) rfl) (v := .ref (B 35)) rfl dX2_mix_55 ?_
  refine lv_bipush (v := 7) hx hb dX2_mix_58 (by decide) ?_
  refine rr_iald C hN 35 (Nat.lt_of_lt_of_le (by decide) hNB) rfl (by decide) 7 (by decide) rfl dX2_mix_60 ?_
  refine lv_istore (lv' := [(8, .int (u 35 7)), (7, .int (u 35 6)), (6, .int (u 35 5)), (5, .int (u 35 4)), (4, .int (u 35 3)), (3, .int (u 35 2)), (2, .int (u 35 1)), (1, .int (u 35 0)), (0, .ref (B 32))]) hx hb dX2_mix_61 hl (by decide) rfl (fun ls hl => ?_)
  refine lv_iconst (v := 0) hx hb dX2_mix_63 (by decide) ?_
  refine lv_istore (lv' := [(9, .int 0), (8, .int (u 35 7)), (7, .int (u 35 6)), (6, .int (u 35 5)), (5, .int (u 35 4)), (4, .int (u 35 3)), (3, .int (u 35 2)), (2, .int (u 35 1)), (1, .int (u 35 0)), (0, .ref (B 32))]) hx hb dX2_mix_64 hl (by decide) rfl (fun ls hl => ?_)
  exact lp_X2_mix C hNB 64 0 (u 35 0) (u 35 1) (u 35 2) (u 35 3) (u 35 4) (u 35 5) (u 35 6) (u 35 7) 0 u (by omega) rfl rfl rfl _ _ _ hN (lv_sub hl [9, 8, 7, 6, 5, 4, 3, 2, 1, 0] rfl)
set_option maxHeartbeats 4000000 in
set_option maxRecDepth 100000 in
theorem lp_X2_dg2 {p : Program} {l : Launch} {e : Env} {s : State} {m : MethodId} {args : Array Value} {below : List Frame} {meth : Method} {c : Code} {D : va_G} {ca : Nat → ClassId} {B : Nat → Nat} {N n : Nat} {X : va_W} (C : ww_C D ca yX2_digestOf.cls cX2_digestOf 5 wsX2_digestOf none (ww_A B N X s.heap.size) p s m args meth c) (hNB : 36 ≤ N) (cnt tot : Int32) {q0 : Nat} (hq : q0 ≤ 5) (htot : tot = nI (64 * q0))  {r : Option Value} {u' : ww_U} : ∀ (d k : Nat) (x : Int32) (u : ww_U), k + d = q0 → (x = nI (64 * k)) → r = none → u' = cl_dg d k u → ∀ (H : Heap) (locs : List Loc) (ls : Array Slot), ww_N D ca B N n u X (ww_A B N X s.heap.size) s.heap H locs → lv_has ls 5 [(0, .ref (B 32)), (1, .ref (B 31)), (2, .int cnt), (3, .int tot), (4, .int x)] → W p l e (headSpec wsX2_digestOf ({ frames := 3, cells := 0, slots := 0, locals := 75 } : Room)).room s m args below meth c H locs 0 0 (MQ below (ww_Q D ca B N n X s.heap.size r u') args s 0 0 (ww_A B N X s.heap.size)) (F0 m 39 ls []) := by
  have hx := C.1.1
  have hb := C.1.2.1
  have hNN : 29 ≤ N := by omega
  intro d
  induction d with
  | zero =>
    intro k x u hkd hxk hr hu H locs ls hN hl
    refine lv_iload hx hb dX2_digestOf_39 (lv_at hl 4 rfl) ?_
    refine lv_iload_n hx hb dX2_digestOf_41 rfl (lv_at hl 3 rfl) ?_
    refine lv_icmp_ge (tgt := 61) hx hb dX2_digestOf_42 (by decide) (fun c_42 => ?_) (fun c_42 => absurd c_42 (fun h => h (by rw [htot, hxk, show k = q0 by omega]; exact nI_le (Nat.le_refl _) (by omega))))
    exact rr_vret C hN dX2_digestOf_61 hr hu
  | succ d ih =>
    intro k x u hkd hxk hr hu H locs ls hN hl
    refine lv_iload hx hb dX2_digestOf_39 (lv_at hl 4 rfl) ?_
    refine lv_iload_n hx hb dX2_digestOf_41 rfl (lv_at hl 3 rfl) ?_
    refine lv_icmp_ge (tgt := 61) hx hb dX2_digestOf_42 (by decide) (fun c_42 => absurd c_42 (by rw [htot, hxk]; exact nI_ge (by omega) (by omega))) (fun c_42 => ?_)
    refine lv_aload_n hx hb dX2_digestOf_45 rfl (lv_at hl 0 rfl) ?_
    refine lv_iload hx hb dX2_digestOf_46 (lv_at hl 4 rfl) ?_
    refine rr_callV0 (As := [.int x]) C hN 32 (Nat.lt_of_lt_of_le (by decide) hNB) rfl rfl rfl (ct_X2_fillSchedule l (f0 := 64 * k) (by omega) hxk hNB) gX2_digestOf_X2_fillSchedule rfl rfl rfl 1 (by decide +kernel) ⟨Nat.le_of_ble_eq_true rfl, Nat.le_of_ble_eq_true rfl⟩ rfl hl.1 rfl (Nat.le_of_ble_eq_true rfl) ⟨Nat.zero_le _, Nat.zero_le _⟩ dX2_digestOf_48 (fun H locs hN => ?_)
    obtain ⟨us1, eus1⟩ : ∃ y : ww_U, y = cl_fill (64 * k) u := ⟨_, rfl⟩
    rw [← eus1] at hN
    refine lv_aload_n hx hb dX2_digestOf_51 rfl (lv_at hl 0 rfl) ?_
    refine rr_callV0 (As := []) C hN 32 (Nat.lt_of_lt_of_le (by decide) hNB) rfl rfl rfl (ct_X2_mix l hNB) gX2_digestOf_X2_mix rfl rfl rfl 0 (by decide +kernel) ⟨Nat.le_of_ble_eq_true rfl, Nat.le_of_ble_eq_true rfl⟩ rfl hl.1 rfl (Nat.le_of_ble_eq_true rfl) ⟨Nat.zero_le _, Nat.zero_le _⟩ dX2_digestOf_52 (fun H locs hN => ?_)
    obtain ⟨us2, eus2⟩ : ∃ y : ww_U, y = cl_mx us1 := ⟨_, rfl⟩
    rw [← eus2] at hN
    obtain ⟨vs3, evs3⟩ : ∃ y9 : Int32, y9 = x + 64 := ⟨_, rfl⟩
    refine lv_iinc (v := vs3) (lv' := [(4, .int vs3), (0, .ref (B 32)), (1, .ref (B 31)), (2, .int cnt), (3, .int tot)]) hx hb dX2_digestOf_55 hl (k := 4) rfl (by rw [evs3]; rfl) (by decide) rfl (fun ls hl => ?_)
    refine lv_goto (tgt := 39) hx hb dX2_digestOf_58 (by decide) ?_
    exact ih (k + 1) vs3 us2 (by omega) (by rw [evs3, hxk]; exact (nI_add (64 * k) 64).trans (congrArg nI (by omega))) hr (hu.trans (by subst_vars; simp only [cl_dg])) H locs ls hN (lv_sub hl [1, 2, 3, 4, 0] rfl)
set_option maxRecDepth 20000 in
theorem kw_X2_digestOf_X2 : ww_K wsX2_digestOf RX2 TX2 3 tyX2 := ⟨by decide +kernel, tyX2_ok, nmX2⟩
set_option maxHeartbeats 4000000 in
set_option maxRecDepth 100000 in
theorem lp_X2_dg1 {p : Program} {l : Launch} {e : Env} {s : State} {m : MethodId} {args : Array Value} {below : List Frame} {meth : Method} {c : Code} {D : va_G} {ca : Nat → ClassId} {B : Nat → Nat} {N n : Nat} {X : va_W} (C : ww_C D ca yX2_digestOf.cls cX2_digestOf 5 wsX2_digestOf none (ww_A B N X s.heap.size) p s m args meth c) (hNB : 36 ≤ N) (cnt tot : Int32) {q0 : Nat} (hq : q0 ≤ 5) (htot : tot = nI (64 * q0))  {r : Option Value} {u' : ww_U} : ∀ (d k : Nat) (x : Int32) (u : ww_U), k + d = 8 → (x = nI k) → r = none → u' = cl_dg q0 0 (cl_sq d k u) → ∀ (H : Heap) (locs : List Loc) (ls : Array Slot), ww_N D ca B N n u X (ww_A B N X s.heap.size) s.heap H locs → lv_has ls 5 [(0, .ref (B 32)), (1, .ref (B 31)), (2, .int cnt), (3, .int tot), (4, .int x)] → W p l e (headSpec wsX2_digestOf ({ frames := 3, cells := 0, slots := 0, locals := 75 } : Room)).room s m args below meth c H locs 0 0 (MQ below (ww_Q D ca B N n X s.heap.size r u') args s 0 0 (ww_A B N X s.heap.size)) (F0 m 10 ls []) := by
  have hx := C.1.1
  have hb := C.1.2.1
  have hNN : 29 ≤ N := by omega
  intro d
  induction d with
  | zero =>
    intro k x u hkd hxk hr hu H locs ls hN hl
    obtain ⟨t1, t2, ⟨hZ1, hT1⟩, hZ2, hT2⟩ := C.2.2.2.2.2
    refine lv_iload hx hb dX2_digestOf_10 (lv_at hl 4 rfl) ?_
    refine lv_bipush (v := 8) hx hb dX2_digestOf_12 (by decide) ?_
    refine lv_icmp_ge (tgt := 36) hx hb dX2_digestOf_14 (by decide) (fun c_14 => ?_) (fun c_14 => absurd c_14 (fun h => h (by rw [hxk, show k = 8 by omega]; decide)))
    refine lv_iconst (v := 0) hx hb dX2_digestOf_36 (by decide) ?_
    refine lv_istore (lv' := [(4, .int 0), (0, .ref (B 32)), (1, .ref (B 31)), (2, .int cnt), (3, .int tot)]) hx hb dX2_digestOf_37 hl (by decide) rfl (fun ls hl => ?_)
    exact lp_X2_dg2 C hNB cnt tot hq htot q0 0 0 u (by omega) rfl hr (hu.trans (by simp only [cl_sq])) H locs ls hN (lv_sub hl [1, 2, 3, 4, 0] rfl)
  | succ d ih =>
    intro k x u hkd hxk hr hu H locs ls hN hl
    obtain ⟨t1, t2, ⟨hZ1, hT1⟩, hZ2, hT2⟩ := C.2.2.2.2.2
    refine lv_iload hx hb dX2_digestOf_10 (lv_at hl 4 rfl) ?_
    refine lv_bipush (v := 8) hx hb dX2_digestOf_12 (by decide) ?_
    refine lv_icmp_ge (tgt := 36) hx hb dX2_digestOf_14 (by decide) (fun c_14 => absurd c_14 (by rw [hxk]; exact (show ¬ nI 8 ≤ nI k from nI_ge (by omega) (by decide)))) (fun c_14 => ?_)
    refine lv_aload_n hx hb dX2_digestOf_17 rfl (lv_at hl 0 rfl) ?_
    refine rr_get C hN 32 (Nat.lt_of_lt_of_le (by decide) hNB) rfl rfl kw_X2_digestOf_X2 2 (by decide) (List.mem_of_getElem? (i := 1) rfl) (v := .ref (B 35)) rfl dX2_digestOf_18 ?_
    refine lv_iload hx hb dX2_digestOf_21 (lv_at hl 4 rfl) ?_
    refine rr_gets C hN hZ1 (List.mem_of_getElem? (i := 2) rfl) dX2_digestOf_23 ?_
    refine lv_iload hx hb dX2_digestOf_26 (lv_at hl 4 rfl) ?_
    refine rr_tald C hN hT1 (by decide) k (by omega) hxk dX2_digestOf_28 ?_
    refine rr_iast C hN 35 (Nat.lt_of_lt_of_le (by decide) hNB) (fun _ => rfl) (by decide) k (by omega) hxk dX2_digestOf_29 (fun us1 eus1 H locs hN => ?_)
    obtain ⟨vs2, evs2⟩ : ∃ y9 : Int32, y9 = x + 1 := ⟨_, rfl⟩
    refine lv_iinc (v := vs2) (lv' := [(4, .int vs2), (0, .ref (B 32)), (1, .ref (B 31)), (2, .int cnt), (3, .int tot)]) hx hb dX2_digestOf_30 hl (k := 4) rfl (by rw [evs2]; rfl) (by decide) rfl (fun ls hl => ?_)
    refine lv_goto (tgt := 10) hx hb dX2_digestOf_33 (by decide) ?_
    exact ih (k + 1) vs2 us1 (by omega) (by rw [evs2, hxk]; exact nI_1 k) hr (hu.trans (by subst_vars; simp only [cl_sq])) H locs ls hN (lv_sub hl [1, 2, 3, 4, 0] rfl)
set_option maxHeartbeats 4000000 in
set_option maxRecDepth 100000 in
theorem ct_X2_digestOf (l : Launch) {D : va_G} {ca : Nat → ClassId} {B : Nat → Nat} {N n : Nat} {X : va_W} {u : ww_U} {cnt : Int32} {mm : Nat} (hm : mm ≤ 256) (hcm : cnt = nI mm) (hNB : 36 ≤ N)  : ww_M l yX2_digestOf wsX2_digestOf ({ frames := 3, cells := 0, slots := 0, locals := 75 } : Room) D ca B N n X u [.ref (B 32), .ref (B 31), .int cnt] none (cl_digest mm u) := by
  refine ww_met (cc := cX2_digestOf) (maxL := 5) (ret := none) (by decide) rfl (Nat.le_of_ble_eq_true rfl) ?_
  intro p e s m args below meth c C hN ls hl
  have hl : lv_has ls 5 [(0, .ref (B 32)), (1, .ref (B 31)), (2, .int cnt)] := hl
  have hx := C.1.1
  have hb := C.1.2.1
  have hNN : 29 ≤ N := by omega
  refine lv_aload_n hx hb dX2_digestOf_0 rfl (lv_at hl 0 rfl) ?_
  refine lv_aload_n hx hb dX2_digestOf_1 rfl (lv_at hl 1 rfl) ?_
  refine lv_iload_n hx hb dX2_digestOf_2 rfl (lv_at hl 2 rfl) ?_
  refine rr_callV (As := [.ref (B 31), .int cnt]) C hN 32 (Nat.lt_of_lt_of_le (by decide) hNB) rfl rfl rfl (ct_X2_layOut l hm hcm hNB) gX2_digestOf_X2_layOut rfl rfl rfl 2 (by decide +kernel) ⟨Nat.le_of_ble_eq_true rfl, Nat.le_of_ble_eq_true rfl⟩ rfl hl.1 rfl (Nat.le_of_ble_eq_true rfl) ⟨Nat.zero_le _, Nat.zero_le _⟩ dX2_digestOf_3 (fun H locs hN => ?_)
  obtain ⟨u1, eu1⟩ : ∃ y : ww_U, y = cl_layOut mm u := ⟨_, rfl⟩
  rw [← eu1] at hN
  refine lv_topi (fun v2 ev2 => ?_)
  refine lv_istore_n (lv' := [(3, .int v2), (0, .ref (B 32)), (1, .ref (B 31)), (2, .int cnt)]) hx hb dX2_digestOf_6 rfl hl (by decide) rfl (fun ls hl => ?_)
  refine lv_iconst (v := 0) hx hb dX2_digestOf_7 (by decide) ?_
  refine lv_istore (lv' := [(4, .int 0), (3, .int v2), (0, .ref (B 32)), (1, .ref (B 31)), (2, .int cnt)]) hx hb dX2_digestOf_8 hl (by decide) rfl (fun ls hl => ?_)
  have hTT := cl_T_eq mm
  exact lp_X2_dg1 C hNB cnt v2 (q0 := cl_T mm / 64) (by omega) (by rw [ev2]; congr 1; omega) 8 0 0 u1 (by omega) rfl rfl (by rw [eu1]; rfl) _ _ _ hN (lv_sub hl [2, 3, 4, 1, 0] rfl)
set_option maxRecDepth 20000 in
theorem kw_X2_resultOctet_X2 : ww_K wsX2_resultOctet RX2 TX2 3 tyX2 := ⟨by decide +kernel, tyX2_ok, nmX2⟩
set_option maxHeartbeats 4000000 in
set_option maxRecDepth 100000 in
theorem ct_X2_resultOctet (l : Launch) {D : va_G} {ca : Nat → ClassId} {B : Nat → Nat} {N n : Nat} {X : va_W} {u : ww_U} {x : Int32} {i : Nat} (hi32 : i < 32) (hxi : x = nI i) (hNB : 36 ≤ N)  : ww_M l yX2_resultOctet wsX2_resultOctet ({ frames := 0, cells := 0, slots := 0, locals := 0 } : Room) D ca B N n X u [.ref (B 32), .int x] (some (.int (cl_oct u i))) u := by
  refine ww_met (cc := cX2_resultOctet) (maxL := 2) (ret := (some .byte)) (by decide) rfl (Nat.le_of_ble_eq_true rfl) ?_
  intro p e s m args below meth c C hN ls hl
  have hl : lv_has ls 2 [(0, .ref (B 32)), (1, .int x)] := hl
  have hx := C.1.1
  have hb := C.1.2.1
  have hNN : 29 ≤ N := by omega
  refine lv_aload_n hx hb dX2_resultOctet_0 rfl (lv_at hl 0 rfl) ?_
  refine rr_get C hN 32 (Nat.lt_of_lt_of_le (by decide) hNB) rfl rfl kw_X2_resultOctet_X2 2 (by decide) (List.mem_of_getElem? (i := 1) rfl) (v := .ref (B 35)) rfl dX2_resultOctet_1 ?_
  refine lv_iload_n hx hb dX2_resultOctet_4 rfl (lv_at hl 1 rfl) ?_
  refine lv_iconst (v := 2) hx hb dX2_resultOctet_5 (by decide) ?_
  refine lv_ishr hx hb dX2_resultOctet_6 ?_
  refine lv_topi (fun v1 ev1 => ?_)
  refine lv_bipush (v := 7) hx hb dX2_resultOctet_7 (by decide) ?_
  refine lv_iand hx hb dX2_resultOctet_9 ?_
  refine lv_topi (fun v2 ev2 => ?_)
  refine rr_iald C hN 35 (Nat.lt_of_lt_of_le (by decide) hNB) rfl (by decide) (i / 4) (by omega) (by rw [ev2, ev1, hxi]; exact (congrArg (fun z : Int32 => z &&& 7) (pk_shrN (by omega) _ 2 (by decide))).trans ((pk_andN (by omega) 3 (by decide)).trans (congrArg nI (by omega)))) dX2_resultOctet_10 ?_
  refine lv_bipush (v := 24) hx hb dX2_resultOctet_11 (by decide) ?_
  refine lv_bipush (v := 8) hx hb dX2_resultOctet_13 (by decide) ?_
  refine lv_iload_n hx hb dX2_resultOctet_15 rfl (lv_at hl 1 rfl) ?_
  refine lv_iconst (v := 3) hx hb dX2_resultOctet_16 (by decide) ?_
  refine lv_iand hx hb dX2_resultOctet_17 ?_
  refine lv_topi (fun v3 ev3 => ?_)
  refine lv_imul hx hb dX2_resultOctet_18 ?_
  refine lv_topi (fun v4 ev4 => ?_)
  refine lv_isub hx hb dX2_resultOctet_19 ?_
  refine lv_topi (fun v5 ev5 => ?_)
  refine lv_iushr hx hb dX2_resultOctet_20 rfl ?_
  refine lv_topi (fun v6 ev6 => ?_)
  refine lv_i2b hx hb dX2_resultOctet_21 rfl ?_
  refine lv_topi (fun v7 ev7 => ?_)
  exact rr_zret C hN dX2_resultOctet_22 (by rw [ev7]; exact pk_nb _) (by subst_vars; rfl) rfl
