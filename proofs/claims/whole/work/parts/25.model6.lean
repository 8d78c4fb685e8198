set_option maxRecDepth 20000 in
theorem kw_X5_findDigest_X5 : ww_K wsX5_findDigest RX5 TX5 36 tyX5 := ⟨by decide +kernel, tyX5_ok, nmX5⟩
set_option maxHeartbeats 4000000 in
set_option maxRecDepth 100000 in
theorem lp_X5_fd9 {p : Program} {l : Launch} {e : Env} {s : State} {m : MethodId} {args : Array Value} {below : List Frame} {meth : Method} {c : Code} {D : va_G} {ca : Nat → ClassId} {B : Nat → Nat} {N n : Nat} {X : va_W} (C : ww_C D ca yX5_findDigest.cls cX5_findDigest 11 wsX5_findDigest none (ww_A B N X s.heap.size) p s m args meth c) (hNN : 29 ≤ N) (pv wv : Int32)  {r : Option Value} {u' : ww_U} : ∀ (d k : Nat) (x : Int32) (u : ww_U), k + d = 32 → (x = nI k) → r = none → u' = ww_up (mo_dl d k u) 0 24 32 → ∀ (H : Heap) (locs : List Loc) (ls : Array Slot), ww_N D ca B N n u X (ww_A B N X s.heap.size) s.heap H locs → lv_has ls 11 [(0, .ref (B 0)), (1, .int pv), (2, .int wv), (3, .int x)] → W p l e (headSpec wsX5_findDigest ({ frames := 1, cells := 0, slots := 0, locals := 25 } : Room)).room s m args below meth c H locs 0 0 (MQ below (ww_Q D ca B N n X s.heap.size r u') args s 0 0 (ww_A B N X s.heap.size)) (F0 m 529 ls []) := by
  have hx := C.1.1
  have hb := C.1.2.1
  intro d
  induction d with
  | zero =>
    intro k x u hkd hxk hr hu H locs ls hN hl
    refine lv_iload_n hx hb dX5_findDigest_529 rfl (lv_at hl 3 rfl) ?_
    refine lv_bipush (v := 32) hx hb dX5_findDigest_530 (by decide) ?_
    refine lv_icmp_ge (tgt := 568) hx hb dX5_findDigest_532 (by decide) (fun c_532 => ?_) (fun c_532 => absurd c_532 (fun h => h (by rw [hxk, show k = 32 by omega]; decide)))
    refine lv_aload_n hx hb dX5_findDigest_568 rfl (lv_at hl 0 rfl) ?_
    refine lv_bipush (v := 32) hx hb dX5_findDigest_569 (by decide) ?_
    refine rr_put C hN 0 (Nat.lt_of_lt_of_le (by decide) hNN) rfl rfl kw_X5_findDigest_X5 24 (by decide) (List.mem_of_getElem? (i := 8) rfl) rfl (x := 32) rfl rfl (Nat.le_of_ble_eq_true rfl) ((Eq.refl _).trans rfl) dX5_findDigest_571 (fun uz1 euz1 H locs hN => ?_)
    exact rr_vret C hN dX5_findDigest_574 hr (hu.trans (by rw [euz1]; simp only [mo_dl]))
  | succ d ih =>
    intro k x u hkd hxk hr hu H locs ls hN hl
    refine lv_iload_n hx hb dX5_findDigest_529 rfl (lv_at hl 3 rfl) ?_
    refine lv_bipush (v := 32) hx hb dX5_findDigest_530 (by decide) ?_
    refine lv_icmp_ge (tgt := 568) hx hb dX5_findDigest_532 (by decide) (fun c_532 => absurd c_532 (by rw [hxk]; exact (show ¬ nI 32 ≤ nI k from nI_ge (by omega) (by decide)))) (fun c_532 => ?_)
    refine lv_aload_n hx hb dX5_findDigest_535 rfl (lv_at hl 0 rfl) ?_
    refine rr_get C hN 0 (Nat.lt_of_lt_of_le (by decide) hNN) rfl rfl kw_X5_findDigest_X5 25 (by decide) (List.mem_of_getElem? (i := 7) rfl) (v := .ref (B 21)) rfl dX5_findDigest_536 ?_
    refine lv_iload_n hx hb dX5_findDigest_539 rfl (lv_at hl 3 rfl) ?_
    refine lv_aload_n hx hb dX5_findDigest_540 rfl (lv_at hl 0 rfl) ?_
    refine rr_get C hN 0 (Nat.lt_of_lt_of_le (by decide) hNN) rfl rfl kw_X5_findDigest_X5 33 (by decide) (List.mem_of_getElem? (i := 2) rfl) (v := .ref (B 26)) rfl dX5_findDigest_541 ?_
    refine lv_iload_n hx hb dX5_findDigest_544 rfl (lv_at hl 3 rfl) ?_
    refine lv_iconst (v := 4) hx hb dX5_findDigest_545 (by decide) ?_
    refine lv_idiv hx hb dX5_findDigest_546 (by decide) ?_
    refine lv_topi (fun vs1 evs1 => ?_)
    refine rr_iald C hN 26 (Nat.lt_of_lt_of_le (by decide) hNN) rfl (by decide) (k / 4) (by omega) (by rw [evs1, hxk]; exact pk_div (d := 4) (by omega) (by decide) (by decide)) dX5_findDigest_547 ?_
    refine lv_bipush (v := 8) hx hb dX5_findDigest_548 (by decide) ?_
    refine lv_iconst (v := 3) hx hb dX5_findDigest_550 (by decide) ?_
    refine lv_iload_n hx hb dX5_findDigest_551 rfl (lv_at hl 3 rfl) ?_
    refine lv_iconst (v := 4) hx hb dX5_findDigest_552 (by decide) ?_
    refine lv_irem hx hb dX5_findDigest_553 (by decide) ?_
    refine lv_topi (fun vs2 evs2 => ?_)
    refine lv_isub hx hb dX5_findDigest_554 ?_
    refine lv_topi (fun vs3 evs3 => ?_)
    refine lv_imul hx hb dX5_findDigest_555 ?_
    refine lv_topi (fun vs4 evs4 => ?_)
    refine lv_ishr hx hb dX5_findDigest_556 ?_
    refine lv_topi (fun vs5 evs5 => ?_)
    refine lv_sipush (v := 255) hx hb dX5_findDigest_557 (by decide) ?_
    refine lv_iand hx hb dX5_findDigest_560 ?_
    refine lv_topi (fun vs6 evs6 => ?_)
    refine rr_iast C hN 21 (Nat.lt_of_lt_of_le (by decide) hNN) (fun _ => rfl) (by decide) k (by omega) hxk dX5_findDigest_561 (fun us7 eus7 H locs hN => ?_)
    obtain ⟨vs8, evs8⟩ : ∃ y9 : Int32, y9 = x + 1 := ⟨_, rfl⟩
    refine lv_iinc (v := vs8) (lv' := [(3, .int vs8), (0, .ref (B 0)), (1, .int pv), (2, .int wv)]) hx hb dX5_findDigest_562 hl (k := 3) rfl (by rw [evs8]; rfl) (by decide) rfl (fun ls hl => ?_)
    refine lv_goto (tgt := 529) hx hb dX5_findDigest_565 (by decide) ?_
    exact ih (k + 1) vs8 us7 (by omega) (by rw [evs8, hxk]; exact nI_1 k) hr (hu.trans (by rw [show mo_dl (d + 1) k u = mo_dl d (k + 1) us7 by subst_vars; rfl])) H locs ls hN (lv_sub hl [1, 2, 3, 0] rfl)
set_option maxHeartbeats 4000000 in
set_option maxRecDepth 100000 in
theorem lp_X5_fd8 {p : Program} {l : Launch} {e : Env} {s : State} {m : MethodId} {args : Array Value} {below : List Frame} {meth : Method} {c : Code} {D : va_G} {ca : Nat → ClassId} {B : Nat → Nat} {N n : Nat} {X : va_W} (C : ww_C D ca yX5_findDigest.cls cX5_findDigest 11 wsX5_findDigest none (ww_A B N X s.heap.size) p s m args meth c) (hNN : 29 ≤ N) (pv wv av : Int32) {Q : State → Prop} {uf : ww_U}  (kk : ∀ (H : Heap) (locs : List Loc) (ls : Array Slot), ww_N D ca B N n uf X (ww_A B N X s.heap.size) s.heap H locs → lv_has ls 11 [(0, .ref (B 0)), (1, .int pv), (2, .int wv), (3, .int av)] → W p l e (headSpec wsX5_findDigest ({ frames := 1, cells := 0, slots := 0, locals := 25 } : Room)).room s m args below meth c H locs 0 0 Q (F0 m 521 ls [])) : ∀ (d k : Nat) (x : Int32) (u : ww_U), k + d = 8 → (x = nI k) → uf = mo_l8 d k u → ∀ (H : Heap) (locs : List Loc) (ls : Array Slot), ww_N D ca B N n u X (ww_A B N X s.heap.size) s.heap H locs → lv_has ls 11 [(0, .ref (B 0)), (1, .int pv), (2, .int wv), (3, .int av), (4, .int x)] → W p l e (headSpec wsX5_findDigest ({ frames := 1, cells := 0, slots := 0, locals := 25 } : Room)).room s m args below meth c H locs 0 0 Q (F0 m 486 ls []) := by
  have hx := C.1.1
  have hb := C.1.2.1
  intro d
  induction d with
  | zero =>
    intro k x u hkd hxk hu  H locs ls hN hl
    refine lv_iload hx hb dX5_findDigest_486 (lv_at hl 4 rfl) ?_
    refine lv_bipush (v := 8) hx hb dX5_findDigest_488 (by decide) ?_
    refine lv_icmp_ge (tgt := 521) hx hb dX5_findDigest_490 (by decide) (fun c_490 => ?_) (fun c_490 => absurd c_490 (fun h => h (by rw [hxk, show k = 8 by omega]; decide)))
    have hE : uf = u := hu
    rw [← hE] at hN
    exact kk H locs ls hN (lv_sub hl [0, 1, 2, 3] rfl)
  | succ d ih =>
    intro k x u hkd hxk hu  H locs ls hN hl
    refine lv_iload hx hb dX5_findDigest_486 (lv_at hl 4 rfl) ?_
    refine lv_bipush (v := 8) hx hb dX5_findDigest_488 (by decide) ?_
    refine lv_icmp_ge (tgt := 521) hx hb dX5_findDigest_490 (by decide) (fun c_490 => absurd c_490 (by rw [hxk]; exact (show ¬ nI 8 ≤ nI k from nI_ge (by omega) (by decide)))) (fun c_490 => ?_)
    refine lv_aload_n hx hb dX5_findDigest_493 rfl (lv_at hl 0 rfl) ?_
    refine rr_get C hN 0 (Nat.lt_of_lt_of_le (by decide) hNN) rfl rfl kw_X5_findDigest_X5 33 (by decide) (List.mem_of_getElem? (i := 2) rfl) (v := .ref (B 26)) rfl dX5_findDigest_494 ?_
    refine lv_iload hx hb dX5_findDigest_497 (lv_at hl 4 rfl) ?_
    refine lv_aload_n hx hb dX5_findDigest_499 rfl (lv_at hl 0 rfl) ?_
    refine rr_get C hN 0 (Nat.lt_of_lt_of_le (by decide) hNN) rfl rfl kw_X5_findDigest_X5 33 (by decide) (List.mem_of_getElem? (i := 2) rfl) (v := .ref (B 26)) rfl dX5_findDigest_500 ?_
    refine lv_iload hx hb dX5_findDigest_503 (lv_at hl 4 rfl) ?_
    refine rr_iald C hN 26 (Nat.lt_of_lt_of_le (by decide) hNN) rfl (by decide) k (by omega) hxk dX5_findDigest_505 ?_
    refine lv_aload_n hx hb dX5_findDigest_506 rfl (lv_at hl 0 rfl) ?_
    refine rr_get C hN 0 (Nat.lt_of_lt_of_le (by decide) hNN) rfl rfl kw_X5_findDigest_X5 35 (by decide) (List.mem_of_getElem? (i := 5) rfl) (v := .ref (B 28)) rfl dX5_findDigest_507 ?_
    refine lv_iload hx hb dX5_findDigest_510 (lv_at hl 4 rfl) ?_
    refine rr_iald C hN 28 (Nat.lt_of_lt_of_le (by decide) hNN) rfl (by decide) k (by omega) hxk dX5_findDigest_512 ?_
    refine lv_iadd hx hb dX5_findDigest_513 ?_
    refine lv_topi (fun vs1 evs1 => ?_)
    refine rr_iast C hN 26 (Nat.lt_of_lt_of_le (by decide) hNN) (fun _ => rfl) (by decide) k (by omega) hxk dX5_findDigest_514 (fun us2 eus2 H locs hN => ?_)
    obtain ⟨vs3, evs3⟩ : ∃ y9 : Int32, y9 = x + 1 := ⟨_, rfl⟩
    refine lv_iinc (v := vs3) (lv' := [(4, .int vs3), (0, .ref (B 0)), (1, .int pv), (2, .int wv), (3, .int av)]) hx hb dX5_findDigest_515 hl (k := 4) rfl (by rw [evs3]; rfl) (by decide) rfl (fun ls hl => ?_)
    refine lv_goto (tgt := 486) hx hb dX5_findDigest_518 (by decide) ?_
    exact ih (k + 1) vs3 us2 (by omega) (by rw [evs3, hxk]; exact nI_1 k) (hu.trans (by subst_vars; simp only [mo_l8]))  H locs ls hN (lv_sub hl [1, 2, 3, 4, 0] rfl)
set_option maxHeartbeats 4000000 in
set_option maxRecDepth 100000 in
theorem lp_X5_fd6 {p : Program} {l : Launch} {e : Env} {s : State} {m : MethodId} {args : Array Value} {below : List Frame} {meth : Method} {c : Code} {D : va_G} {ca : Nat → ClassId} {B : Nat → Nat} {N n : Nat} {X : va_W} (C : ww_C D ca yX5_findDigest.cls cX5_findDigest 11 wsX5_findDigest none (ww_A B N X s.heap.size) p s m args meth c) (hNN : 29 ≤ N) (pv wv av : Int32) {Q : State → Prop} {uf : ww_U}  (kk : ∀ (H : Heap) (locs : List Loc) (ls : Array Slot), ww_N D ca B N n uf X (ww_A B N X s.heap.size) s.heap H locs → lv_has ls 11 [(0, .ref (B 0)), (1, .int pv), (2, .int wv), (3, .int av)] → W p l e (headSpec wsX5_findDigest ({ frames := 1, cells := 0, slots := 0, locals := 25 } : Room)).room s m args below meth c H locs 0 0 Q (F0 m 264 ls [])) : ∀ (d k : Nat) (x : Int32) (u : ww_U), k + d = 8 → (x = nI k) → uf = mo_l6 d k u → ∀ (H : Heap) (locs : List Loc) (ls : Array Slot), ww_N D ca B N n u X (ww_A B N X s.heap.size) s.heap H locs → lv_has ls 11 [(0, .ref (B 0)), (1, .int pv), (2, .int wv), (3, .int av), (4, .int x)] → W p l e (headSpec wsX5_findDigest ({ frames := 1, cells := 0, slots := 0, locals := 25 } : Room)).room s m args below meth c H locs 0 0 Q (F0 m 237 ls []) := by
  have hx := C.1.1
  have hb := C.1.2.1
  intro d
  induction d with
  | zero =>
    intro k x u hkd hxk hu  H locs ls hN hl
    refine lv_iload hx hb dX5_findDigest_237 (lv_at hl 4 rfl) ?_
    refine lv_bipush (v := 8) hx hb dX5_findDigest_239 (by decide) ?_
    refine lv_icmp_ge (tgt := 264) hx hb dX5_findDigest_241 (by decide) (fun c_241 => ?_) (fun c_241 => absurd c_241 (fun h => h (by rw [hxk, show k = 8 by omega]; decide)))
    have hE : uf = u := hu
    rw [← hE] at hN
    exact kk H locs ls hN (lv_sub hl [0, 1, 2, 3] rfl)
  | succ d ih =>
    intro k x u hkd hxk hu  H locs ls hN hl
    refine lv_iload hx hb dX5_findDigest_237 (lv_at hl 4 rfl) ?_
    refine lv_bipush (v := 8) hx hb dX5_findDigest_239 (by decide) ?_
    refine lv_icmp_ge (tgt := 264) hx hb dX5_findDigest_241 (by decide) (fun c_241 => absurd c_241 (by rw [hxk]; exact (show ¬ nI 8 ≤ nI k from nI_ge (by omega) (by decide)))) (fun c_241 => ?_)
    refine lv_aload_n hx hb dX5_findDigest_244 rfl (lv_at hl 0 rfl) ?_
    refine rr_get C hN 0 (Nat.lt_of_lt_of_le (by decide) hNN) rfl rfl kw_X5_findDigest_X5 35 (by decide) (List.mem_of_getElem? (i := 5) rfl) (v := .ref (B 28)) rfl dX5_findDigest_245 ?_
    refine lv_iload hx hb dX5_findDigest_248 (lv_at hl 4 rfl) ?_
    refine lv_aload_n hx hb dX5_findDigest_250 rfl (lv_at hl 0 rfl) ?_
    refine rr_get C hN 0 (Nat.lt_of_lt_of_le (by decide) hNN) rfl rfl kw_X5_findDigest_X5 33 (by decide) (List.mem_of_getElem? (i := 2) rfl) (v := .ref (B 26)) rfl dX5_findDigest_251 ?_
    refine lv_iload hx hb dX5_findDigest_254 (lv_at hl 4 rfl) ?_
    refine rr_iald C hN 26 (Nat.lt_of_lt_of_le (by decide) hNN) rfl (by decide) k (by omega) hxk dX5_findDigest_256 ?_
    refine rr_iast C hN 28 (Nat.lt_of_lt_of_le (by decide) hNN) (fun _ => rfl) (by decide) k (by omega) hxk dX5_findDigest_257 (fun us1 eus1 H locs hN => ?_)
    obtain ⟨vs2, evs2⟩ : ∃ y9 : Int32, y9 = x + 1 := ⟨_, rfl⟩
    refine lv_iinc (v := vs2) (lv' := [(4, .int vs2), (0, .ref (B 0)), (1, .int pv), (2, .int wv), (3, .int av)]) hx hb dX5_findDigest_258 hl (k := 4) rfl (by rw [evs2]; rfl) (by decide) rfl (fun ls hl => ?_)
    refine lv_goto (tgt := 237) hx hb dX5_findDigest_261 (by decide) ?_
    exact ih (k + 1) vs2 us1 (by omega) (by rw [evs2, hxk]; exact nI_1 k) (hu.trans (by subst_vars; simp only [mo_l6]))  H locs ls hN (lv_sub hl [1, 2, 3, 4, 0] rfl)
set_option maxHeartbeats 4000000 in
set_option maxRecDepth 100000 in
theorem lp_X5_fd7 {p : Program} {l : Launch} {e : Env} {s : State} {m : MethodId} {args : Array Value} {below : List Frame} {meth : Method} {c : Code} {D : va_G} {ca : Nat → ClassId} {B : Nat → Nat} {N n : Nat} {X : va_W} (C : ww_C D ca yX5_findDigest.cls cX5_findDigest 11 wsX5_findDigest none (ww_A B N X s.heap.size) p s m args meth c) (hNN : 29 ≤ N) (pv wv av : Int32) {Q : State → Prop} {uf : ww_U}  (kk : ∀ (H : Heap) (locs : List Loc) (ls : Array Slot), ww_N D ca B N n uf X (ww_A B N X s.heap.size) s.heap H locs → lv_has ls 11 [(0, .ref (B 0)), (1, .int pv), (2, .int wv), (3, .int av)] → W p l e (headSpec wsX5_findDigest ({ frames := 1, cells := 0, slots := 0, locals := 25 } : Room)).room s m args below meth c H locs 0 0 Q (F0 m 483 ls [])) : ∀ (d k : Nat) (x : Int32) (u : ww_U), k + d = 64 → (x = nI k) → uf = mo_l7 d k u → ∀ (H : Heap) (locs : List Loc) (ls : Array Slot), ww_N D ca B N n u X (ww_A B N X s.heap.size) s.heap H locs → lv_has ls 11 [(0, .ref (B 0)), (1, .int pv), (2, .int wv), (3, .int av), (4, .int x)] → W p l e (headSpec wsX5_findDigest ({ frames := 1, cells := 0, slots := 0, locals := 25 } : Room)).room s m args below meth c H locs 0 0 Q (F0 m 267 ls []) := by
  have hx := C.1.1
  have hb := C.1.2.1
  intro d
  induction d with
  | zero =>
    intro k x u hkd hxk hu  H locs ls hN hl
    refine lv_iload hx hb dX5_findDigest_267 (lv_at hl 4 rfl) ?_
    refine lv_bipush (v := 64) hx hb dX5_findDigest_269 (by decide) ?_
    refine lv_icmp_ge (tgt := 483) hx hb dX5_findDigest_271 (by decide) (fun c_271 => ?_) (fun c_271 => absurd c_271 (fun h => h (by rw [hxk, show k = 64 by omega]; decide)))
    have hE : uf = u := hu
    rw [← hE] at hN
    exact kk H locs ls hN (lv_sub hl [0, 1, 2, 3] rfl)
  | succ d ih =>
    intro k x u hkd hxk hu  H locs ls hN hl
    refine lv_iload hx hb dX5_findDigest_267 (lv_at hl 4 rfl) ?_
    refine lv_bipush (v := 64) hx hb dX5_findDigest_269 (by decide) ?_
    refine lv_icmp_ge (tgt := 483) hx hb dX5_findDigest_271 (by decide) (fun c_271 => absurd c_271 (by rw [hxk]; exact (show ¬ nI 64 ≤ nI k from nI_ge (by omega) (by decide)))) (fun c_271 => ?_)
    refine lv_aload_n hx hb dX5_findDigest_274 rfl (lv_at hl 0 rfl) ?_
    refine lv_iconst (v := 4) hx hb dX5_findDigest_275 (by decide) ?_
    refine lv_iload hx hb dX5_findDigest_276 (lv_at hl 4 rfl) ?_
    refine rr_callV (As := [.int 4, .int x]) C hN 0 (Nat.lt_of_lt_of_le (by decide) hNN) rfl rfl rfl (ct_X5_at l 4 x hNN) gX5_findDigest_X5_at rfl rfl rfl 2 (by decide +kernel) ⟨Nat.le_of_ble_eq_true rfl, Nat.le_of_ble_eq_true rfl⟩ rfl hl.1 rfl (Nat.le_of_ble_eq_true rfl) ⟨Nat.zero_le _, Nat.zero_le _⟩ dX5_findDigest_278 (fun H locs hN => ?_)
    refine lv_topi (fun vs1 evs1 => ?_)
    refine lv_istore (lv' := [(5, .int vs1), (0, .ref (B 0)), (1, .int pv), (2, .int wv), (3, .int av), (4, .int x)]) hx hb dX5_findDigest_281 hl (by decide) rfl (fun ls hl => ?_)
    refine lv_aload_n hx hb dX5_findDigest_283 rfl (lv_at hl 1 rfl) ?_
    refine lv_iconst (v := 0) hx hb dX5_findDigest_284 (by decide) ?_
    refine lv_iload hx hb dX5_findDigest_285 (lv_at hl 5 rfl) ?_
    refine rr_callV (As := [.int 0, .int x]) C hN 0 (Nat.lt_of_lt_of_le (by decide) hNN) rfl rfl rfl (ct_X5_at l 0 x hNN) gX5_findDigest_X5_at rfl rfl rfl 2 (by decide +kernel) ⟨Nat.le_of_ble_eq_true rfl, Nat.le_of_ble_eq_true rfl⟩ rfl hl.1 rfl (Nat.le_of_ble_eq_true rfl) ⟨Nat.zero_le _, Nat.zero_le _⟩ dX5_findDigest_287 (fun H locs hN => ?_)
    refine lv_topi (fun vs2 evs2 => ?_)
    refine lv_istore (lv' := [(6, .int vs2), (5, .int vs1), (0, .ref (B 0)), (1, .int pv), (2, .int wv), (3, .int av), (4, .int x)]) hx hb dX5_findDigest_290 hl (by decide) rfl (fun ls hl => ?_)
    refine lv_iload hx hb dX5_findDigest_292 (lv_at hl 1 rfl) ?_
    refine lv_aload_n hx hb dX5_findDigest_294 rfl (lv_at hl 2 rfl) ?_
    refine lv_iconst (v := 5) hx hb dX5_findDigest_295 (by decide) ?_
    refine lv_iload hx hb dX5_findDigest_296 (lv_at hl 6 rfl) ?_
    refine rr_callV (As := [.int 5, .int x]) C hN 0 (Nat.lt_of_lt_of_le (by decide) hNN) rfl rfl rfl (ct_X5_at l 5 x hNN) gX5_findDigest_X5_at rfl rfl rfl 2 (by decide +kernel) ⟨Nat.le_of_ble_eq_true rfl, Nat.le_of_ble_eq_true rfl⟩ rfl hl.1 rfl (Nat.le_of_ble_eq_true rfl) ⟨Nat.zero_le _, Nat.zero_le _⟩ dX5_findDigest_298 (fun H locs hN => ?_)
    refine lv_topi (fun vs3 evs3 => ?_)
    refine lv_iand hx hb dX5_findDigest_301 ?_
    refine lv_topi (fun vs4 evs4 => ?_)
    refine lv_iload hx hb dX5_findDigest_302 (lv_at hl 1 rfl) ?_
    refine lv_iconst (v := (-1)) hx hb dX5_findDigest_304 (by decide) ?_
    refine lv_ixor hx hb dX5_findDigest_305 ?_
    refine lv_topi (fun vs5 evs5 => ?_)
    refine lv_aload_n hx hb dX5_findDigest_306 rfl (lv_at hl 2 rfl) ?_
    refine lv_bipush (v := 6) hx hb dX5_findDigest_307 (by decide) ?_
    refine lv_iload hx hb dX5_findDigest_309 (lv_at hl 6 rfl) ?_
    refine rr_callV (As := [.int 6, .int x]) C hN 0 (Nat.lt_of_lt_of_le (by decide) hNN) rfl rfl rfl (ct_X5_at l 6 x hNN) gX5_findDigest_X5_at rfl rfl rfl 2 (by decide +kernel) ⟨Nat.le_of_ble_eq_true rfl, Nat.le_of_ble_eq_true rfl⟩ rfl hl.1 rfl (Nat.le_of_ble_eq_true rfl) ⟨Nat.zero_le _, Nat.zero_le _⟩ dX5_findDigest_311 (fun H locs hN => ?_)
    refine lv_topi (fun vs6 evs6 => ?_)
    refine lv_iand hx hb dX5_findDigest_314 ?_
    refine lv_topi (fun vs7 evs7 => ?_)
    refine lv_ior hx hb dX5_findDigest_315 ?_
    refine lv_topi (fun vs8 evs8 => ?_)
    refine lv_istore (lv' := [(7, .int vs8), (6, .int vs2), (5, .int vs1), (0, .ref (B 0)), (1, .int pv), (2, .int wv), (3, .int av), (4, .int x)]) hx hb dX5_findDigest_316 hl (by decide) rfl (fun ls hl => ?_)
    refine lv_iload hx hb dX5_findDigest_318 (lv_at hl 1 rfl) ?_
    refine lv_aload_n hx hb dX5_findDigest_320 rfl (lv_at hl 3 rfl) ?_
    refine lv_iconst (v := 1) hx hb dX5_findDigest_321 (by decide) ?_
    refine lv_iload hx hb dX5_findDigest_322 (lv_at hl 7 rfl) ?_
    refine rr_callV (As := [.int 1, .int x]) C hN 0 (Nat.lt_of_lt_of_le (by decide) hNN) rfl rfl rfl (ct_X5_at l 1 x hNN) gX5_findDigest_X5_at rfl rfl rfl 2 (by decide +kernel) ⟨Nat.le_of_ble_eq_true rfl, Nat.le_of_ble_eq_true rfl⟩ rfl hl.1 rfl (Nat.le_of_ble_eq_true rfl) ⟨Nat.zero_le _, Nat.zero_le _⟩ dX5_findDigest_324 (fun H locs hN => ?_)
    refine lv_topi (fun vs9 evs9 => ?_)
    refine lv_iand hx hb dX5_findDigest_327 ?_
    refine lv_topi (fun vs10 evs10 => ?_)
    refine lv_iload hx hb dX5_findDigest_328 (lv_at hl 1 rfl) ?_
    refine lv_aload_n hx hb dX5_findDigest_330 rfl (lv_at hl 3 rfl) ?_
    refine lv_iconst (v := 2) hx hb dX5_findDigest_331 (by decide) ?_
    refine lv_iload hx hb dX5_findDigest_332 (lv_at hl 7 rfl) ?_
    refine rr_callV (As := [.int 2, .int x]) C hN 0 (Nat.lt_of_lt_of_le (by decide) hNN) rfl rfl rfl (ct_X5_at l 2 x hNN) gX5_findDigest_X5_at rfl rfl rfl 2 (by decide +kernel) ⟨Nat.le_of_ble_eq_true rfl, Nat.le_of_ble_eq_true rfl⟩ rfl hl.1 rfl (Nat.le_of_ble_eq_true rfl) ⟨Nat.zero_le _, Nat.zero_le _⟩ dX5_findDigest_334 (fun H locs hN => ?_)
    refine lv_topi (fun vs11 evs11 => ?_)
    refine lv_iand hx hb dX5_findDigest_337 ?_
    refine lv_topi (fun vs12 evs12 => ?_)
    refine lv_ior hx hb dX5_findDigest_338 ?_
    refine lv_topi (fun vs13 evs13 => ?_)
    refine lv_aload_n hx hb dX5_findDigest_339 rfl (lv_at hl 3 rfl) ?_
    refine lv_iconst (v := 1) hx hb dX5_findDigest_340 (by decide) ?_
    refine lv_iload hx hb dX5_findDigest_341 (lv_at hl 7 rfl) ?_
    refine rr_callV (As := [.int 1, .int x]) C hN 0 (Nat.lt_of_lt_of_le (by decide) hNN) rfl rfl rfl (ct_X5_at l 1 x hNN) gX5_findDigest_X5_at rfl rfl rfl 2 (by decide +kernel) ⟨Nat.le_of_ble_eq_true rfl, Nat.le_of_ble_eq_true rfl⟩ rfl hl.1 rfl (Nat.le_of_ble_eq_true rfl) ⟨Nat.zero_le _, Nat.zero_le _⟩ dX5_findDigest_343 (fun H locs hN => ?_)
    refine lv_topi (fun vs14 evs14 => ?_)
    refine lv_aload_n hx hb dX5_findDigest_346 rfl (lv_at hl 3 rfl) ?_
    refine lv_iconst (v := 2) hx hb dX5_findDigest_347 (by decide) ?_
    refine lv_iload hx hb dX5_findDigest_348 (lv_at hl 7 rfl) ?_
    refine rr_callV (As := [.int 2, .int x]) C hN 0 (Nat.lt_of_lt_of_le (by decide) hNN) rfl rfl rfl (ct_X5_at l 2 x hNN) gX5_findDigest_X5_at rfl rfl rfl 2 (by decide +kernel) ⟨Nat.le_of_ble_eq_true rfl, Nat.le_of_ble_eq_true rfl⟩ rfl hl.1 rfl (Nat.le_of_ble_eq_true rfl) ⟨Nat.zero_le _, Nat.zero_le _⟩ dX5_findDigest_350 (fun H locs hN => ?_)
    refine lv_topi (fun vs15 evs15 => ?_)
    refine lv_iand hx hb dX5_findDigest_353 ?_
    refine lv_topi (fun vs16 evs16 => ?_)
    refine lv_ior hx hb dX5_findDigest_354 ?_
    refine lv_topi (fun vs17 evs17 => ?_)
    refine lv_istore (lv' := [(8, .int vs17), (7, .int vs8), (6, .int vs2), (5, .int vs1), (0, .ref (B 0)), (1, .int pv), (2, .int wv), (3, .int av), (4, .int x)]) hx hb dX5_findDigest_355 hl (by decide) rfl (fun ls hl => ?_)
    refine lv_aload_n hx hb dX5_findDigest_357 rfl (lv_at hl 4 rfl) ?_
    refine lv_bipush (v := 7) hx hb dX5_findDigest_358 (by decide) ?_
    refine lv_iload hx hb dX5_findDigest_360 (lv_at hl 8 rfl) ?_
    refine rr_callV (As := [.int 7, .int x]) C hN 0 (Nat.lt_of_lt_of_le (by decide) hNN) rfl rfl rfl (ct_X5_at l 7 x hNN) gX5_findDigest_X5_at rfl rfl rfl 2 (by decide +kernel) ⟨Nat.le_of_ble_eq_true rfl, Nat.le_of_ble_eq_true rfl⟩ rfl hl.1 rfl (Nat.le_of_ble_eq_true rfl) ⟨Nat.zero_le _, Nat.zero_le _⟩ dX5_findDigest_362 (fun H locs hN => ?_)
    refine lv_topi (fun vs18 evs18 => ?_)
    refine lv_iload hx hb dX5_findDigest_365 (lv_at hl 3 rfl) ?_
    refine lv_bipush (v := 6) hx hb dX5_findDigest_367 (by decide) ?_
    refine rr_callS (As := [.int vs1, .int 6]) C hN (ct_X5_turned l vs1 6 hNN) gX5_findDigest_X5_turned rfl rfl rfl 2 (by decide +kernel) ⟨Nat.le_of_ble_eq_true rfl, Nat.le_of_ble_eq_true rfl⟩ rfl hl.1 rfl (Nat.le_of_ble_eq_true rfl) ⟨Nat.zero_le _, Nat.zero_le _⟩ dX5_findDigest_369 (fun H locs hN => ?_)
    refine lv_topi (fun vs19 evs19 => ?_)
    refine lv_iload hx hb dX5_findDigest_372 (lv_at hl 3 rfl) ?_
    refine lv_bipush (v := 11) hx hb dX5_findDigest_374 (by decide) ?_
    refine rr_callS (As := [.int vs1, .int 11]) C hN (ct_X5_turned l vs1 11 hNN) gX5_findDigest_X5_turned rfl rfl rfl 2 (by decide +kernel) ⟨Nat.le_of_ble_eq_true rfl, Nat.le_of_ble_eq_true rfl⟩ rfl hl.1 rfl (Nat.le_of_ble_eq_true rfl) ⟨Nat.zero_le _, Nat.zero_le _⟩ dX5_findDigest_376 (fun H locs hN => ?_)
    refine lv_topi (fun vs20 evs20 => ?_)
    refine lv_ixor hx hb dX5_findDigest_379 ?_
    refine lv_topi (fun vs21 evs21 => ?_)
    refine lv_iload hx hb dX5_findDigest_380 (lv_at hl 3 rfl) ?_
    refine lv_bipush (v := 25) hx hb dX5_findDigest_382 (by decide) ?_
    refine rr_callS (As := [.int vs1, .int 25]) C hN (ct_X5_turned l vs1 25 hNN) gX5_findDigest_X5_turned rfl rfl rfl 2 (by decide +kernel) ⟨Nat.le_of_ble_eq_true rfl, Nat.le_of_ble_eq_true rfl⟩ rfl hl.1 rfl (Nat.le_of_ble_eq_true rfl) ⟨Nat.zero_le _, Nat.zero_le _⟩ dX5_findDigest_384 (fun H locs hN => ?_)
    refine lv_topi (fun vs22 evs22 => ?_)
    refine lv_ixor hx hb dX5_findDigest_387 ?_
    refine lv_topi (fun vs23 evs23 => ?_)
    refine lv_iadd hx hb dX5_findDigest_388 ?_
    refine lv_topi (fun vs24 evs24 => ?_)
    refine lv_iload hx hb dX5_findDigest_389 (lv_at hl 1 rfl) ?_
    refine lv_iadd hx hb dX5_findDigest_391 ?_
    refine lv_topi (fun vs25 evs25 => ?_)
    refine lv_aload_n hx hb dX5_findDigest_392 rfl (lv_at hl 4 rfl) ?_
    refine rr_get C hN 0 (Nat.lt_of_lt_of_le (by decide) hNN) rfl rfl kw_X5_findDigest_X5 30 (by decide) (List.mem_of_getElem? (i := 6) rfl) (v := .ref (B 23)) rfl dX5_findDigest_393 ?_
    refine lv_iload hx hb dX5_findDigest_396 (lv_at hl 8 rfl) ?_
    refine rr_iald C hN 23 (Nat.lt_of_lt_of_le (by decide) hNN) rfl (by decide) k (by omega) hxk dX5_findDigest_398 ?_
    refine lv_iadd hx hb dX5_findDigest_399 ?_
    refine lv_topi (fun vs26 evs26 => ?_)
    refine lv_aload_n hx hb dX5_findDigest_400 rfl (lv_at hl 4 rfl) ?_
    refine rr_get C hN 0 (Nat.lt_of_lt_of_le (by decide) hNN) rfl rfl kw_X5_findDigest_X5 34 (by decide) (List.mem_of_getElem? (i := 4) rfl) (v := .ref (B 27)) rfl dX5_findDigest_401 ?_
    refine lv_iload hx hb dX5_findDigest_404 (lv_at hl 8 rfl) ?_
    refine rr_iald C hN 27 (Nat.lt_of_lt_of_le (by decide) hNN) rfl (by decide) k (by omega) hxk dX5_findDigest_406 ?_
    refine lv_iadd hx hb dX5_findDigest_407 ?_
    refine lv_topi (fun vs27 evs27 => ?_)
    refine lv_istore (lv' := [(9, .int vs27), (8, .int vs17), (7, .int vs8), (6, .int vs2), (5, .int vs1), (0, .ref (B 0)), (1, .int pv), (2, .int wv), (3, .int av), (4, .int x)]) hx hb dX5_findDigest_408 hl (by decide) rfl (fun ls hl => ?_)
    refine lv_iload hx hb dX5_findDigest_410 (lv_at hl 3 rfl) ?_
    refine lv_iconst (v := 2) hx hb dX5_findDigest_412 (by decide) ?_
    refine rr_callS (As := [.int vs2, .int 2]) C hN (ct_X5_turned l vs2 2 hNN) gX5_findDigest_X5_turned rfl rfl rfl 2 (by decide +kernel) ⟨Nat.le_of_ble_eq_true rfl, Nat.le_of_ble_eq_true rfl⟩ rfl hl.1 rfl (Nat.le_of_ble_eq_true rfl) ⟨Nat.zero_le _, Nat.zero_le _⟩ dX5_findDigest_413 (fun H locs hN => ?_)
    refine lv_topi (fun vs28 evs28 => ?_)
    refine lv_iload hx hb dX5_findDigest_416 (lv_at hl 3 rfl) ?_
    refine lv_bipush (v := 13) hx hb dX5_findDigest_418 (by decide) ?_
    refine rr_callS (As := [.int vs2, .int 13]) C hN (ct_X5_turned l vs2 13 hNN) gX5_findDigest_X5_turned rfl rfl rfl 2 (by decide +kernel) ⟨Nat.le_of_ble_eq_true rfl, Nat.le_of_ble_eq_true rfl⟩ rfl hl.1 rfl (Nat.le_of_ble_eq_true rfl) ⟨Nat.zero_le _, Nat.zero_le _⟩ dX5_findDigest_420 (fun H locs hN => ?_)
    refine lv_topi (fun vs29 evs29 => ?_)
    refine lv_ixor hx hb dX5_findDigest_423 ?_
    refine lv_topi (fun vs30 evs30 => ?_)
    refine lv_iload hx hb dX5_findDigest_424 (lv_at hl 3 rfl) ?_
    refine lv_bipush (v := 22) hx hb dX5_findDigest_426 (by decide) ?_
    refine rr_callS (As := [.int vs2, .int 22]) C hN (ct_X5_turned l vs2 22 hNN) gX5_findDigest_X5_turned rfl rfl rfl 2 (by decide +kernel) ⟨Nat.le_of_ble_eq_true rfl, Nat.le_of_ble_eq_true rfl⟩ rfl hl.1 rfl (Nat.le_of_ble_eq_true rfl) ⟨Nat.zero_le _, Nat.zero_le _⟩ dX5_findDigest_428 (fun H locs hN => ?_)
    refine lv_topi (fun vs31 evs31 => ?_)
    refine lv_ixor hx hb dX5_findDigest_431 ?_
    refine lv_topi (fun vs32 evs32 => ?_)
    refine lv_iload hx hb dX5_findDigest_432 (lv_at hl 1 rfl) ?_
    refine lv_iadd hx hb dX5_findDigest_434 ?_
    refine lv_topi (fun vs33 evs33 => ?_)
    refine lv_istore (lv' := [(10, .int vs33), (9, .int vs27), (8, .int vs17), (7, .int vs8), (6, .int vs2), (5, .int vs1), (0, .ref (B 0)), (1, .int pv), (2, .int wv), (3, .int av), (4, .int x)]) hx hb dX5_findDigest_435 hl (by decide) rfl (fun ls hl => ?_)
    refine lv_aload_n hx hb dX5_findDigest_437 rfl (lv_at hl 6 rfl) ?_
    refine rr_get C hN 0 (Nat.lt_of_lt_of_le (by decide) hNN) rfl rfl kw_X5_findDigest_X5 35 (by decide) (List.mem_of_getElem? (i := 5) rfl) (v := .ref (B 28)) rfl dX5_findDigest_438 ?_
    refine lv_iconst (v := 3) hx hb dX5_findDigest_441 (by decide) ?_
    refine lv_iload hx hb dX5_findDigest_442 (lv_at hl 10 rfl) ?_
    refine lv_isub hx hb dX5_findDigest_444 ?_
    refine lv_topi (fun vs34 evs34 => ?_)
    refine lv_bipush (v := 7) hx hb dX5_findDigest_445 (by decide) ?_
    refine lv_iand hx hb dX5_findDigest_447 ?_
    refine lv_topi (fun vs35 evs35 => ?_)
    refine lv_aload_n hx hb dX5_findDigest_448 rfl (lv_at hl 6 rfl) ?_
    refine lv_iconst (v := 3) hx hb dX5_findDigest_449 (by decide) ?_
    refine lv_iload hx hb dX5_findDigest_450 (lv_at hl 10 rfl) ?_
    refine rr_callV (As := [.int 3, .int x]) C hN 0 (Nat.lt_of_lt_of_le (by decide) hNN) rfl rfl rfl (ct_X5_at l 3 x hNN) gX5_findDigest_X5_at rfl rfl rfl 2 (by decide +kernel) ⟨Nat.le_of_ble_eq_true rfl, Nat.le_of_ble_eq_true rfl⟩ rfl hl.1 rfl (Nat.le_of_ble_eq_true rfl) ⟨Nat.zero_le _, Nat.zero_le _⟩ dX5_findDigest_452 (fun H locs hN => ?_)
    refine lv_topi (fun vs36 evs36 => ?_)
    refine lv_iload hx hb dX5_findDigest_455 (lv_at hl 1 rfl) ?_
    refine lv_iadd hx hb dX5_findDigest_457 ?_
    refine lv_topi (fun vs37 evs37 => ?_)
    refine rr_iast C hN 28 (Nat.lt_of_lt_of_le (by decide) hNN) (fun _ => rfl) (by decide) (mo_m8 (3 - nI k)) (Nat.mod_lt _ (by decide)) (by rw [evs35, evs34, hxk]; exact pk_and _ 3 (by decide)) dX5_findDigest_458 (fun us38 eus38 H locs hN => ?_)
    refine lv_aload_n hx hb dX5_findDigest_459 rfl (lv_at hl 6 rfl) ?_
    refine rr_get C hN 0 (Nat.lt_of_lt_of_le (by decide) hNN) rfl rfl kw_X5_findDigest_X5 35 (by decide) (List.mem_of_getElem? (i := 5) rfl) (v := .ref (B 28)) rfl dX5_findDigest_460 ?_
    refine lv_bipush (v := 7) hx hb dX5_findDigest_463 (by decide) ?_
    refine lv_iload hx hb dX5_findDigest_465 (lv_at hl 10 rfl) ?_
    refine lv_isub hx hb dX5_findDigest_467 ?_
    refine lv_topi (fun vs39 evs39 => ?_)
    refine lv_bipush (v := 7) hx hb dX5_findDigest_468 (by decide) ?_
    refine lv_iand hx hb dX5_findDigest_470 ?_
    refine lv_topi (fun vs40 evs40 => ?_)
    refine lv_iload hx hb dX5_findDigest_471 (lv_at hl 1 rfl) ?_
    refine lv_iload hx hb dX5_findDigest_473 (lv_at hl 0 rfl) ?_
    refine lv_iadd hx hb dX5_findDigest_475 ?_
    refine lv_topi (fun vs41 evs41 => ?_)
    refine rr_iast C hN 28 (Nat.lt_of_lt_of_le (by decide) hNN) (fun _ => rfl) (by decide) (mo_m8 (7 - nI k)) (Nat.mod_lt _ (by decide)) (by rw [evs40, evs39, hxk]; exact pk_and _ 3 (by decide)) dX5_findDigest_476 (fun us42 eus42 H locs hN => ?_)
    obtain ⟨vs43, evs43⟩ : ∃ y9 : Int32, y9 = x + 1 := ⟨_, rfl⟩
    refine lv_iinc (v := vs43) (lv' := [(4, .int vs43), (10, .int vs33), (9, .int vs27), (8, .int vs17), (7, .int vs8), (6, .int vs2), (5, .int vs1), (0, .ref (B 0)), (1, .int pv), (2, .int wv), (3, .int av)]) hx hb dX5_findDigest_477 hl (k := 10) rfl (by rw [evs43]; rfl) (by decide) rfl (fun ls hl => ?_)
    refine lv_goto (tgt := 267) hx hb dX5_findDigest_480 (by decide) ?_
    exact ih (k + 1) vs43 us42 (by omega) (by rw [evs43, hxk]; exact nI_1 k) (hu.trans (by subst_vars; simp only [mo_l7, mo_rnd, mo_x, mo_y, mo_at, sh_ts]))  H locs ls hN (lv_sub hl [7, 8, 9, 10, 0] rfl)
set_option maxHeartbeats 4000000 in
set_option maxRecDepth 100000 in
theorem lp_X5_fd5 {p : Program} {l : Launch} {e : Env} {s : State} {m : MethodId} {args : Array Value} {below : List Frame} {meth : Method} {c : Code} {D : va_G} {ca : Nat → ClassId} {B : Nat → Nat} {N n : Nat} {X : va_W} (C : ww_C D ca yX5_findDigest.cls cX5_findDigest 11 wsX5_findDigest none (ww_A B N X s.heap.size) p s m args meth c) (hNN : 29 ≤ N) {pp len : Nat} (hp60 : pp ≤ 60) (hlen : len ≤ 256) (pv wv : Int32) {w0 : Nat} (hpv : pv = nI pp) (hwv : wv = nI w0) (hw0 : w0 ≤ 320) (av tv : Int32) {a0 t0 : Nat} (hav : av = nI a0) (htv : tv = nI t0) (ht0 : t0 < 16) (ha0 : a0 + 64 ≤ w0) {Q : State → Prop} {uf : ww_U}  (kk : ∀ (H : Heap) (locs : List Loc) (ls : Array Slot), ww_N D ca B N n uf X (ww_A B N X s.heap.size) s.heap H locs → lv_has ls 11 [(0, .ref (B 0)), (1, .int pv), (2, .int wv), (3, .int av), (4, .int tv)] → W p l e (headSpec wsX5_findDigest ({ frames := 1, cells := 0, slots := 0, locals := 25 } : Room)).room s m args below meth c H locs 0 0 Q (F0 m 131 ls [])) : ∀ (d k : Nat) (x : Int32) (u : ww_U), k + d = 4 → (x = nI k) → (u 13 pp = nI len) → uf = mo_l5 d k t0 pp len a0 w0 u → ∀ (H : Heap) (locs : List Loc) (ls : Array Slot), ww_N D ca B N n u X (ww_A B N X s.heap.size) s.heap H locs → lv_has ls 11 [(0, .ref (B 0)), (1, .int pv), (2, .int wv), (3, .int av), (4, .int tv), (5, .int x)] → W p l e (headSpec wsX5_findDigest ({ frames := 1, cells := 0, slots := 0, locals := 25 } : Room)).room s m args below meth c H locs 0 0 Q (F0 m 85 ls []) := by
  have hx := C.1.1
  have hb := C.1.2.1
  intro d
  induction d with
  | zero =>
    intro k x u hkd hxk hle hu  H locs ls hN hl
    refine lv_iload hx hb dX5_findDigest_85 (lv_at hl 5 rfl) ?_
    refine lv_iconst (v := 4) hx hb dX5_findDigest_87 (by decide) ?_
    refine lv_icmp_ge (tgt := 131) hx hb dX5_findDigest_88 (by decide) (fun c_88 => ?_) (fun c_88 => absurd c_88 (fun h => h (by rw [hxk, show k = 4 by omega]; decide)))
    have hE : uf = u := hu
    rw [← hE] at hN
    exact kk H locs ls hN (lv_sub hl [0, 1, 2, 3, 4] rfl)
  | succ d ih =>
    intro k x u hkd hxk hle hu  H locs ls hN hl
    refine lv_iload hx hb dX5_findDigest_85 (lv_at hl 5 rfl) ?_
    refine lv_iconst (v := 4) hx hb dX5_findDigest_87 (by decide) ?_
    refine lv_icmp_ge (tgt := 131) hx hb dX5_findDigest_88 (by decide) (fun c_88 => absurd c_88 (by rw [hxk]; exact (show ¬ nI 4 ≤ nI k from nI_ge (by omega) (by decide)))) (fun c_88 => ?_)
    refine lv_aload_n hx hb dX5_findDigest_91 rfl (lv_at hl 0 rfl) ?_
    refine rr_get C hN 0 (Nat.lt_of_lt_of_le (by decide) hNN) rfl rfl kw_X5_findDigest_X5 34 (by decide) (List.mem_of_getElem? (i := 4) rfl) (v := .ref (B 27)) rfl dX5_findDigest_92 ?_
    refine lv_iload hx hb dX5_findDigest_95 (lv_at hl 4 rfl) ?_
    refine lv_aload_n hx hb dX5_findDigest_97 rfl (lv_at hl 0 rfl) ?_
    refine rr_get C hN 0 (Nat.lt_of_lt_of_le (by decide) hNN) rfl rfl kw_X5_findDigest_X5 34 (by decide) (List.mem_of_getElem? (i := 4) rfl) (v := .ref (B 27)) rfl dX5_findDigest_98 ?_
    refine lv_iload hx hb dX5_findDigest_101 (lv_at hl 4 rfl) ?_
    refine rr_iald C hN 27 (Nat.lt_of_lt_of_le (by decide) hNN) rfl (by decide) t0 (by omega) htv dX5_findDigest_103 ?_
    refine lv_sipush (v := 256) hx hb dX5_findDigest_104 (by decide) ?_
    refine lv_imul hx hb dX5_findDigest_107 ?_
    refine lv_topi (fun vs1 evs1 => ?_)
    refine lv_aload_n hx hb dX5_findDigest_108 rfl (lv_at hl 0 rfl) ?_
    refine lv_iload_n hx hb dX5_findDigest_109 rfl (lv_at hl 1 rfl) ?_
    refine lv_iload_n hx hb dX5_findDigest_110 rfl (lv_at hl 3 rfl) ?_
    refine lv_iconst (v := 4) hx hb dX5_findDigest_111 (by decide) ?_
    refine lv_iload hx hb dX5_findDigest_112 (lv_at hl 4 rfl) ?_
    refine lv_imul hx hb dX5_findDigest_114 ?_
    refine lv_topi (fun vs2 evs2 => ?_)
    refine lv_iadd hx hb dX5_findDigest_115 ?_
    refine lv_topi (fun vs3 evs3 => ?_)
    refine lv_iload hx hb dX5_findDigest_116 (lv_at hl 5 rfl) ?_
    refine lv_iadd hx hb dX5_findDigest_118 ?_
    refine lv_topi (fun vs4 evs4 => ?_)
    refine lv_iload_n hx hb dX5_findDigest_119 rfl (lv_at hl 2 rfl) ?_
    refine rr_callV (As := [.int pv, .int vs4, .int wv]) C hN 0 (Nat.lt_of_lt_of_le (by decide) hNN) rfl rfl rfl (ct_X5_padded l (pp := pp) (ii := a0 + 4 * t0 + k) (w0 := w0) (len := len) hp60 hpv (by rw [evs4, evs3, evs2, hav, htv, hxk]; exact (congrArg (fun z : Int32 => nI a0 + z + nI k) (pk_mul 4 t0)).trans ((congrArg (fun z : Int32 => z + nI k) (nI_add a0 (4 * t0))).trans (nI_add _ _))) hwv (by omega) (by omega) hlen hle hNN) gX5_findDigest_X5_padded rfl rfl rfl 3 (by decide +kernel) ⟨Nat.le_of_ble_eq_true rfl, Nat.le_of_ble_eq_true rfl⟩ rfl hl.1 rfl (Nat.le_of_ble_eq_true rfl) ⟨Nat.zero_le _, Nat.zero_le _⟩ dX5_findDigest_120 (fun H locs hN => ?_)
    refine lv_topi (fun vs5 evs5 => ?_)
    refine lv_iadd hx hb dX5_findDigest_123 ?_
    refine lv_topi (fun vs6 evs6 => ?_)
    refine rr_iast C hN 27 (Nat.lt_of_lt_of_le (by decide) hNN) (fun _ => rfl) (by decide) t0 (by omega) htv dX5_findDigest_124 (fun us7 eus7 H locs hN => ?_)
    obtain ⟨vs8, evs8⟩ : ∃ y9 : Int32, y9 = x + 1 := ⟨_, rfl⟩
    refine lv_iinc (v := vs8) (lv' := [(5, .int vs8), (0, .ref (B 0)), (1, .int pv), (2, .int wv), (3, .int av), (4, .int tv)]) hx hb dX5_findDigest_125 hl (k := 5) rfl (by rw [evs8]; rfl) (by decide) rfl (fun ls hl => ?_)
    refine lv_goto (tgt := 85) hx hb dX5_findDigest_128 (by decide) ?_
    exact ih (k + 1) vs8 us7 (by omega) (by rw [evs8, hxk]; exact nI_1 k) (by rw [eus7]; exact hle) (hu.trans (by subst_vars; simp only [mo_l5]))  H locs ls hN (lv_sub hl [1, 2, 3, 4, 5, 0] rfl)
theorem mo_l5_ne {d k t p len a w b : Nat} {u : ww_U} (h : b ≠ 27) : mo_l5 d k t p len a w u b = u b := by
  induction d generalizing k u with
  | zero => rfl
  | succ d ih => show mo_l5 d (k + 1) t p len a w _ b = _; rw [ih, ww_up_ne h]
set_option maxHeartbeats 4000000 in
set_option maxRecDepth 100000 in
theorem lp_X5_fd4 {p : Program} {l : Launch} {e : Env} {s : State} {m : MethodId} {args : Array Value} {below : List Frame} {meth : Method} {c : Code} {D : va_G} {ca : Nat → ClassId} {B : Nat → Nat} {N n : Nat} {X : va_W} (C : ww_C D ca yX5_findDigest.cls cX5_findDigest 11 wsX5_findDigest none (ww_A B N X s.heap.size) p s m args meth c) (hNN : 29 ≤ N) {pp len : Nat} (hp60 : pp ≤ 60) (hlen : len ≤ 256) (pv wv : Int32) {w0 : Nat} (hpv : pv = nI pp) (hwv : wv = nI w0) (hw0 : w0 ≤ 320) (av : Int32) {a0 : Nat} (hav : av = nI a0) (ha0 : a0 + 64 ≤ w0) {Q : State → Prop} {uf : ww_U}  (kk : ∀ (H : Heap) (locs : List Loc) (ls : Array Slot), ww_N D ca B N n uf X (ww_A B N X s.heap.size) s.heap H locs → lv_has ls 11 [(0, .ref (B 0)), (1, .int pv), (2, .int wv), (3, .int av)] → W p l e (headSpec wsX5_findDigest ({ frames := 1, cells := 0, slots := 0, locals := 25 } : Room)).room s m args below meth c H locs 0 0 Q (F0 m 234 ls [])) : ∀ (d k : Nat) (x : Int32) (u : ww_U), k + d = 64 → (x = nI k) → (u 13 pp = nI len) → uf = mo_l4 d k pp len a0 w0 u → ∀ (H : Heap) (locs : List Loc) (ls : Array Slot), ww_N D ca B N n u X (ww_A B N X s.heap.size) s.heap H locs → lv_has ls 11 [(0, .ref (B 0)), (1, .int pv), (2, .int wv), (3, .int av), (4, .int x)] → W p l e (headSpec wsX5_findDigest ({ frames := 1, cells := 0, slots := 0, locals := 25 } : Room)).room s m args below meth c H locs 0 0 Q (F0 m 60 ls []) := by
  have hx := C.1.1
  have hb := C.1.2.1
  intro d
  induction d with
  | zero =>
    intro k x u hkd hxk hle hu  H locs ls hN hl
    refine lv_iload hx hb dX5_findDigest_60 (lv_at hl 4 rfl) ?_
    refine lv_bipush (v := 64) hx hb dX5_findDigest_62 (by decide) ?_
    refine lv_icmp_ge (tgt := 234) hx hb dX5_findDigest_64 (by decide) (fun c_64 => ?_) (fun c_64 => absurd c_64 (fun h => h (by rw [hxk, show k = 64 by omega]; decide)))
    have hE : uf = u := hu
    rw [← hE] at hN
    exact kk H locs ls hN (lv_sub hl [0, 1, 2, 3] rfl)
  | succ d ih =>
    intro k x u hkd hxk hle hu  H locs ls hN hl
    refine lv_iload hx hb dX5_findDigest_60 (lv_at hl 4 rfl) ?_
    refine lv_bipush (v := 64) hx hb dX5_findDigest_62 (by decide) ?_
    refine lv_icmp_ge (tgt := 234) hx hb dX5_findDigest_64 (by decide) (fun c_64 => absurd c_64 (by rw [hxk]; exact (show ¬ nI 64 ≤ nI k from nI_ge (by omega) (by decide)))) (fun c_64 => ?_)
    refine lv_iload hx hb dX5_findDigest_67 (lv_at hl 4 rfl) ?_
    refine lv_bipush (v := 16) hx hb dX5_findDigest_69 (by decide) ?_
    refine lv_icmp_ge (tgt := 134) hx hb dX5_findDigest_71 (by decide) (fun c_71 => ?_) (fun c_71 => ?_)
    · have hk16 : ¬ k < 16 := fun z => nI_ge z (by decide) (by rw [← hxk]; exact c_71)
      refine lv_aload_n hx hb dX5_findDigest_134 rfl (lv_at hl 0 rfl) ?_
      refine rr_get C hN 0 (Nat.lt_of_lt_of_le (by decide) hNN) rfl rfl kw_X5_findDigest_X5 34 (by decide) (List.mem_of_getElem? (i := 4) rfl) (v := .ref (B 27)) rfl dX5_findDigest_135 ?_
      refine lv_iload hx hb dX5_findDigest_138 (lv_at hl 4 rfl) ?_
      refine lv_bipush (v := 15) hx hb dX5_findDigest_140 (by decide) ?_
      refine lv_isub hx hb dX5_findDigest_142 ?_
      refine lv_topi (fun vs1 evs1 => ?_)
      refine rr_iald C hN 27 (Nat.lt_of_lt_of_le (by decide) hNN) rfl (by decide) (k - 15) (by omega) (by rw [evs1, hxk]; exact pk_sub (a := k) (b := 15) (by omega)) dX5_findDigest_143 ?_
      refine lv_istore (lv' := [(5, .int (u 27 (k - 15))), (0, .ref (B 0)), (1, .int pv), (2, .int wv), (3, .int av), (4, .int x)]) hx hb dX5_findDigest_144 hl (by decide) rfl (fun ls hl => ?_)
      refine lv_aload_n hx hb dX5_findDigest_146 rfl (lv_at hl 1 rfl) ?_
      refine rr_get C hN 0 (Nat.lt_of_lt_of_le (by decide) hNN) rfl rfl kw_X5_findDigest_X5 34 (by decide) (List.mem_of_getElem? (i := 4) rfl) (v := .ref (B 27)) rfl dX5_findDigest_147 ?_
      refine lv_iload hx hb dX5_findDigest_150 (lv_at hl 5 rfl) ?_
      refine lv_iconst (v := 2) hx hb dX5_findDigest_152 (by decide) ?_
      refine lv_isub hx hb dX5_findDigest_153 ?_
      refine lv_topi (fun vs2 evs2 => ?_)
      refine rr_iald C hN 27 (Nat.lt_of_lt_of_le (by decide) hNN) rfl (by decide) (k - 2) (by omega) (by rw [evs2, hxk]; exact pk_sub (a := k) (b := 2) (by omega)) dX5_findDigest_154 ?_
      refine lv_istore (lv' := [(6, .int (u 27 (k - 2))), (5, .int (u 27 (k - 15))), (0, .ref (B 0)), (1, .int pv), (2, .int wv), (3, .int av), (4, .int x)]) hx hb dX5_findDigest_155 hl (by decide) rfl (fun ls hl => ?_)
      refine lv_aload_n hx hb dX5_findDigest_157 rfl (lv_at hl 2 rfl) ?_
      refine rr_get C hN 0 (Nat.lt_of_lt_of_le (by decide) hNN) rfl rfl kw_X5_findDigest_X5 34 (by decide) (List.mem_of_getElem? (i := 4) rfl) (v := .ref (B 27)) rfl dX5_findDigest_158 ?_
      refine lv_iload hx hb dX5_findDigest_161 (lv_at hl 6 rfl) ?_
      refine lv_aload_n hx hb dX5_findDigest_163 rfl (lv_at hl 2 rfl) ?_
      refine rr_get C hN 0 (Nat.lt_of_lt_of_le (by decide) hNN) rfl rfl kw_X5_findDigest_X5 34 (by decide) (List.mem_of_getElem? (i := 4) rfl) (v := .ref (B 27)) rfl dX5_findDigest_164 ?_
      refine lv_iload hx hb dX5_findDigest_167 (lv_at hl 6 rfl) ?_
      refine lv_bipush (v := 16) hx hb dX5_findDigest_169 (by decide) ?_
      refine lv_isub hx hb dX5_findDigest_171 ?_
      refine lv_topi (fun vs3 evs3 => ?_)
      refine rr_iald C hN 27 (Nat.lt_of_lt_of_le (by decide) hNN) rfl (by decide) (k - 16) (by omega) (by rw [evs3, hxk]; exact pk_sub (a := k) (b := 16) (by omega)) dX5_findDigest_172 ?_
      refine lv_aload_n hx hb dX5_findDigest_173 rfl (lv_at hl 2 rfl) ?_
      refine rr_get C hN 0 (Nat.lt_of_lt_of_le (by decide) hNN) rfl rfl kw_X5_findDigest_X5 34 (by decide) (List.mem_of_getElem? (i := 4) rfl) (v := .ref (B 27)) rfl dX5_findDigest_174 ?_
      refine lv_iload hx hb dX5_findDigest_177 (lv_at hl 6 rfl) ?_
      refine lv_bipush (v := 7) hx hb dX5_findDigest_179 (by decide) ?_
      refine lv_isub hx hb dX5_findDigest_181 ?_
      refine lv_topi (fun vs4 evs4 => ?_)
      refine rr_iald C hN 27 (Nat.lt_of_lt_of_le (by decide) hNN) rfl (by decide) (k - 7) (by omega) (by rw [evs4, hxk]; exact pk_sub (a := k) (b := 7) (by omega)) dX5_findDigest_182 ?_
      refine lv_iadd hx hb dX5_findDigest_183 ?_
      refine lv_topi (fun vs5 evs5 => ?_)
      refine lv_iload hx hb dX5_findDigest_184 (lv_at hl 1 rfl) ?_
      refine lv_bipush (v := 7) hx hb dX5_findDigest_186 (by decide) ?_
      refine rr_callS (As := [.int (u 27 (k - 15)), .int 7]) C hN (ct_X5_turned l (u 27 (k - 15)) 7 hNN) gX5_findDigest_X5_turned rfl rfl rfl 2 (by decide +kernel) ⟨Nat.le_of_ble_eq_true rfl, Nat.le_of_ble_eq_true rfl⟩ rfl hl.1 rfl (Nat.le_of_ble_eq_true rfl) ⟨Nat.zero_le _, Nat.zero_le _⟩ dX5_findDigest_188 (fun H locs hN => ?_)
      refine lv_topi (fun vs6 evs6 => ?_)
      refine lv_iload hx hb dX5_findDigest_191 (lv_at hl 1 rfl) ?_
      refine lv_bipush (v := 18) hx hb dX5_findDigest_193 (by decide) ?_
      refine rr_callS (As := [.int (u 27 (k - 15)), .int 18]) C hN (ct_X5_turned l (u 27 (k - 15)) 18 hNN) gX5_findDigest_X5_turned rfl rfl rfl 2 (by decide +kernel) ⟨Nat.le_of_ble_eq_true rfl, Nat.le_of_ble_eq_true rfl⟩ rfl hl.1 rfl (Nat.le_of_ble_eq_true rfl) ⟨Nat.zero_le _, Nat.zero_le _⟩ dX5_findDigest_195 (fun H locs hN => ?_)
      refine lv_topi (fun vs7 evs7 => ?_)
      refine lv_ixor hx hb dX5_findDigest_198 ?_
      refine lv_topi (fun vs8 evs8 => ?_)
      refine lv_iload hx hb dX5_findDigest_199 (lv_at hl 1 rfl) ?_
      refine lv_iconst (v := 3) hx hb dX5_findDigest_201 (by decide) ?_
      refine lv_iushr hx hb dX5_findDigest_202 rfl ?_
      refine lv_topi (fun vs9 evs9 => ?_)
      refine lv_ixor hx hb dX5_findDigest_203 ?_
      refine lv_topi (fun vs10 evs10 => ?_)
      refine lv_iadd hx hb dX5_findDigest_204 ?_
      refine lv_topi (fun vs11 evs11 => ?_)
      refine lv_iload hx hb dX5_findDigest_205 (lv_at hl 0 rfl) ?_
      refine lv_bipush (v := 17) hx hb dX5_findDigest_207 (by decide) ?_
      refine rr_callS (As := [.int (u 27 (k - 2)), .int 17]) C hN (ct_X5_turned l (u 27 (k - 2)) 17 hNN) gX5_findDigest_X5_turned rfl rfl rfl 2 (by decide +kernel) ⟨Nat.le_of_ble_eq_true rfl, Nat.le_of_ble_eq_true rfl⟩ rfl hl.1 rfl (Nat.le_of_ble_eq_true rfl) ⟨Nat.zero_le _, Nat.zero_le _⟩ dX5_findDigest_209 (fun H locs hN => ?_)
      refine lv_topi (fun vs12 evs12 => ?_)
      refine lv_iload hx hb dX5_findDigest_212 (lv_at hl 0 rfl) ?_
      refine lv_bipush (v := 19) hx hb dX5_findDigest_214 (by decide) ?_
      refine rr_callS (As := [.int (u 27 (k - 2)), .int 19]) C hN (ct_X5_turned l (u 27 (k - 2)) 19 hNN) gX5_findDigest_X5_turned rfl rfl rfl 2 (by decide +kernel) ⟨Nat.le_of_ble_eq_true rfl, Nat.le_of_ble_eq_true rfl⟩ rfl hl.1 rfl (Nat.le_of_ble_eq_true rfl) ⟨Nat.zero_le _, Nat.zero_le _⟩ dX5_findDigest_216 (fun H locs hN => ?_)
      refine lv_topi (fun vs13 evs13 => ?_)
      refine lv_ixor hx hb dX5_findDigest_219 ?_
      refine lv_topi (fun vs14 evs14 => ?_)
      refine lv_iload hx hb dX5_findDigest_220 (lv_at hl 0 rfl) ?_
      refine lv_bipush (v := 10) hx hb dX5_findDigest_222 (by decide) ?_
      refine lv_iushr hx hb dX5_findDigest_224 rfl ?_
      refine lv_topi (fun vs15 evs15 => ?_)
      refine lv_ixor hx hb dX5_findDigest_225 ?_
      refine lv_topi (fun vs16 evs16 => ?_)
      refine lv_iadd hx hb dX5_findDigest_226 ?_
      refine lv_topi (fun vs17 evs17 => ?_)
      refine rr_iast C hN 27 (Nat.lt_of_lt_of_le (by decide) hNN) (fun _ => rfl) (by decide) k (by omega) hxk dX5_findDigest_227 (fun us18 eus18 H locs hN => ?_)
      obtain ⟨vs19, evs19⟩ : ∃ y9 : Int32, y9 = x + 1 := ⟨_, rfl⟩
      refine lv_iinc (v := vs19) (lv' := [(4, .int vs19), (6, .int (u 27 (k - 2))), (5, .int (u 27 (k - 15))), (0, .ref (B 0)), (1, .int pv), (2, .int wv), (3, .int av)]) hx hb dX5_findDigest_228 hl (k := 6) rfl (by rw [evs19]; rfl) (by decide) rfl (fun ls hl => ?_)
      refine lv_goto (tgt := 60) hx hb dX5_findDigest_231 (by decide) ?_
      exact ih (k + 1) vs19 us18 (by omega) (by rw [evs19, hxk]; exact nI_1 k) (by rw [eus18]; exact hle) (hu.trans (by subst_vars; simp only [mo_l4, mo_l4s]; rw [if_neg hk16]; rfl))  H locs ls hN (lv_sub hl [3, 4, 5, 6, 0] rfl)
    · have hk16 : k < 16 := by rcases Nat.lt_or_ge k 16 with z | z; exact z; exact absurd (by rw [hxk]; exact (show nI 16 ≤ nI k from nI_le z (by omega))) c_71
      refine lv_aload_n hx hb dX5_findDigest_74 rfl (lv_at hl 0 rfl) ?_
      refine rr_get C hN 0 (Nat.lt_of_lt_of_le (by decide) hNN) rfl rfl kw_X5_findDigest_X5 34 (by decide) (List.mem_of_getElem? (i := 4) rfl) (v := .ref (B 27)) rfl dX5_findDigest_75 ?_
      refine lv_iload hx hb dX5_findDigest_78 (lv_at hl 4 rfl) ?_
      refine lv_iconst (v := 0) hx hb dX5_findDigest_80 (by decide) ?_
      refine rr_iast C hN 27 (Nat.lt_of_lt_of_le (by decide) hNN) (fun _ => rfl) (by decide) k (by omega) hxk dX5_findDigest_81 (fun us20 eus20 H locs hN => ?_)
      refine lv_iconst (v := 0) hx hb dX5_findDigest_82 (by decide) ?_
      refine lv_istore (lv' := [(5, .int 0), (0, .ref (B 0)), (1, .int pv), (2, .int wv), (3, .int av), (4, .int x)]) hx hb dX5_findDigest_83 hl (by decide) rfl (fun ls hl => ?_)
      refine lp_X5_fd5 C hNN hp60 hlen pv wv hpv hwv hw0 av x hav hxk hk16 ha0 (uf := mo_l5 4 0 k pp len a0 w0 us20)  (fun H locs ls hN hl => ?_) 4 0 0 us20 (by omega) rfl (by rw [eus20]; exact hle) rfl  _ _ _ hN (lv_sub hl [1, 2, 3, 4, 5, 0] rfl)
      obtain ⟨us21, eus21⟩ : ∃ y9 : ww_U, y9 = mo_l5 4 0 k pp len a0 w0 us20 := ⟨_, rfl⟩
      rw [← eus21] at hN
      refine lv_goto (tgt := 228) hx hb dX5_findDigest_131 (by decide) ?_
      obtain ⟨vs22, evs22⟩ : ∃ y9 : Int32, y9 = x + 1 := ⟨_, rfl⟩
      refine lv_iinc (v := vs22) (lv' := [(4, .int vs22), (0, .ref (B 0)), (1, .int pv), (2, .int wv), (3, .int av)]) hx hb dX5_findDigest_228 hl (k := 4) rfl (by rw [evs22]; rfl) (by decide) rfl (fun ls hl => ?_)
      refine lv_goto (tgt := 60) hx hb dX5_findDigest_231 (by decide) ?_
      exact ih (k + 1) vs22 us21 (by omega) (by rw [evs22, hxk]; exact nI_1 k) (by rw [eus21, mo_l5_ne (by decide), eus20]; exact hle) (hu.trans (by rw [eus21, eus20]; simp only [mo_l4, mo_l4s]; rw [if_pos hk16]))  H locs ls hN (lv_sub hl [1, 2, 3, 4, 0] rfl)
theorem mo_l4_ne {d k p len a w b : Nat} {u : ww_U} (h : b ≠ 27) : mo_l4 d k p len a w u b = u b := by
  induction d generalizing k u with
  | zero => rfl
  | succ d ih =>
    show mo_l4 d (k + 1) p len a w _ b = _
    rw [ih]
    unfold mo_l4s
    split
    · rw [mo_l5_ne h, ww_up_ne h]
    · rw [ww_up_ne h]
theorem mo_l6_ne {d k b : Nat} {u : ww_U} (h : b ≠ 28) : mo_l6 d k u b = u b := by
  induction d generalizing k u with
  | zero => rfl
  | succ d ih => show mo_l6 d (k + 1) _ b = _; rw [ih, ww_up_ne h]
theorem mo_l7_ne {d k b : Nat} {u : ww_U} (h : b ≠ 28) : mo_l7 d k u b = u b := by
  induction d generalizing k u with
  | zero => rfl
  | succ d ih => show mo_l7 d (k + 1) _ b = _; rw [ih]; unfold mo_rnd; rw [ww_up_ne h, ww_up_ne h]
theorem mo_l8_ne {d k b : Nat} {u : ww_U} (h : b ≠ 26) : mo_l8 d k u b = u b := by
  induction d generalizing k u with
  | zero => rfl
  | succ d ih => show mo_l8 d (k + 1) _ b = _; rw [ih, ww_up_ne h]
theorem mo_blk_ne {k p len w b : Nat} {u : ww_U} (h6 : b ≠ 26) (h7 : b ≠ 27) (h8 : b ≠ 28) : mo_blk k p len w u b = u b := by
  unfold mo_blk
  rw [mo_l8_ne h6, mo_l7_ne h8, mo_l6_ne h8, mo_l4_ne h7]
set_option maxHeartbeats 4000000 in
set_option maxRecDepth 100000 in
theorem lp_X5_fd3 {p : Program} {l : Launch} {e : Env} {s : State} {m : MethodId} {args : Array Value} {below : List Frame} {meth : Method} {c : Code} {D : va_G} {ca : Nat → ClassId} {B : Nat → Nat} {N n : Nat} {X : va_W} (C : ww_C D ca yX5_findDigest.cls cX5_findDigest 11 wsX5_findDigest none (ww_A B N X s.heap.size) p s m args meth c) (hNN : 29 ≤ N) {pp len : Nat} (hp60 : pp ≤ 60) (hlen : len ≤ 256) (pv wv : Int32) {w0 : Nat} (hpv : pv = nI pp) (hwv : wv = nI w0) (hw0 : w0 ≤ 320) {q0 : Nat} (hq0 : w0 = 64 * q0)  {r : Option Value} {u' : ww_U} : ∀ (d k : Nat) (x : Int32) (u : ww_U), k + d = q0 → (x = nI (64 * k)) → (u 13 pp = nI len) → r = none → u' = ww_up (mo_dl 32 0 (mo_l3 d k pp len w0 u)) 0 24 32 → ∀ (H : Heap) (locs : List Loc) (ls : Array Slot), ww_N D ca B N n u X (ww_A B N X s.heap.size) s.heap H locs → lv_has ls 11 [(0, .ref (B 0)), (1, .int pv), (2, .int wv), (3, .int x)] → W p l e (headSpec wsX5_findDigest ({ frames := 1, cells := 0, slots := 0, locals := 25 } : Room)).room s m args below meth c H locs 0 0 (MQ below (ww_Q D ca B N n X s.heap.size r u') args s 0 0 (ww_A B N X s.heap.size)) (F0 m 52 ls []) := by
  have hx := C.1.1
  have hb := C.1.2.1
  intro d
  induction d with
  | zero =>
    intro k x u hkd hxk hle hr hu H locs ls hN hl
    refine lv_iload_n hx hb dX5_findDigest_52 rfl (lv_at hl 3 rfl) ?_
    refine lv_iload_n hx hb dX5_findDigest_53 rfl (lv_at hl 2 rfl) ?_
    refine lv_icmp_ge (tgt := 527) hx hb dX5_findDigest_54 (by decide) (fun c_54 => ?_) (fun c_54 => absurd c_54 (fun h => h (by rw [hwv, hxk, show k = q0 by omega, hq0]; exact nI_le (Nat.le_refl _) (by omega))))
    refine lv_iconst (v := 0) hx hb dX5_findDigest_527 (by decide) ?_
    refine lv_istore_n (lv' := [(3, .int 0), (0, .ref (B 0)), (1, .int pv), (2, .int wv)]) hx hb dX5_findDigest_528 rfl hl (by decide) rfl (fun ls hl => ?_)
    exact lp_X5_fd9 C hNN pv wv 32 0 0 u (by omega) rfl hr (hu.trans (by simp only [mo_l3])) H locs ls hN (lv_sub hl [1, 2, 3, 0] rfl)
  | succ d ih =>
    intro k x u hkd hxk hle hr hu H locs ls hN hl
    refine lv_iload_n hx hb dX5_findDigest_52 rfl (lv_at hl 3 rfl) ?_
    refine lv_iload_n hx hb dX5_findDigest_53 rfl (lv_at hl 2 rfl) ?_
    refine lv_icmp_ge (tgt := 527) hx hb dX5_findDigest_54 (by decide) (fun c_54 => absurd c_54 (by rw [hwv, hxk]; exact nI_ge (by omega) (by omega))) (fun c_54 => ?_)
    refine lv_iconst (v := 0) hx hb dX5_findDigest_57 (by decide) ?_
    refine lv_istore (lv' := [(4, .int 0), (0, .ref (B 0)), (1, .int pv), (2, .int wv), (3, .int x)]) hx hb dX5_findDigest_58 hl (by decide) rfl (fun ls hl => ?_)
    refine lp_X5_fd4 C hNN hp60 hlen pv wv hpv hwv hw0 x hxk (by omega) (uf := mo_l4 64 0 pp len (64 * k) w0 u)  (fun H locs ls hN hl => ?_) 64 0 0 u (by omega) rfl hle rfl  _ _ _ hN (lv_sub hl [1, 2, 3, 4, 0] rfl)
    obtain ⟨us1, eus1⟩ : ∃ y9 : ww_U, y9 = mo_l4 64 0 pp len (64 * k) w0 u := ⟨_, rfl⟩
    rw [← eus1] at hN
    refine lv_iconst (v := 0) hx hb dX5_findDigest_234 (by decide) ?_
    refine lv_istore (lv' := [(4, .int 0), (0, .ref (B 0)), (1, .int pv), (2, .int wv), (3, .int x)]) hx hb dX5_findDigest_235 hl (by decide) rfl (fun ls hl => ?_)
    refine lp_X5_fd6 C hNN pv wv x (uf := mo_l6 8 0 us1)  (fun H locs ls hN hl => ?_) 8 0 0 us1 (by omega) rfl rfl  _ _ _ hN (lv_sub hl [1, 2, 3, 4, 0] rfl)
    obtain ⟨us2, eus2⟩ : ∃ y9 : ww_U, y9 = mo_l6 8 0 us1 := ⟨_, rfl⟩
    rw [← eus2] at hN
    refine lv_iconst (v := 0) hx hb dX5_findDigest_264 (by decide) ?_
    refine lv_istore (lv' := [(4, .int 0), (0, .ref (B 0)), (1, .int pv), (2, .int wv), (3, .int x)]) hx hb dX5_findDigest_265 hl (by decide) rfl (fun ls hl => ?_)
    refine lp_X5_fd7 C hNN pv wv x (uf := mo_l7 64 0 us2)  (fun H locs ls hN hl => ?_) 64 0 0 us2 (by omega) rfl rfl  _ _ _ hN (lv_sub hl [1, 2, 3, 4, 0] rfl)
    obtain ⟨us3, eus3⟩ : ∃ y9 : ww_U, y9 = mo_l7 64 0 us2 := ⟨_, rfl⟩
    rw [← eus3] at hN
    refine lv_iconst (v := 0) hx hb dX5_findDigest_483 (by decide) ?_
    refine lv_istore (lv' := [(4, .int 0), (0, .ref (B 0)), (1, .int pv), (2, .int wv), (3, .int x)]) hx hb dX5_findDigest_484 hl (by decide) rfl (fun ls hl => ?_)
    refine lp_X5_fd8 C hNN pv wv x (uf := mo_l8 8 0 us3)  (fun H locs ls hN hl => ?_) 8 0 0 us3 (by omega) rfl rfl  _ _ _ hN (lv_sub hl [1, 2, 3, 4, 0] rfl)
    obtain ⟨us4, eus4⟩ : ∃ y9 : ww_U, y9 = mo_l8 8 0 us3 := ⟨_, rfl⟩
    rw [← eus4] at hN
    have hBK : us4 = mo_blk k pp len w0 u := by rw [eus4, eus3, eus2, eus1]; rfl
    obtain ⟨vs5, evs5⟩ : ∃ y9 : Int32, y9 = x + 64 := ⟨_, rfl⟩
    refine lv_iinc (v := vs5) (lv' := [(3, .int vs5), (0, .ref (B 0)), (1, .int pv), (2, .int wv)]) hx hb dX5_findDigest_521 hl (k := 3) rfl (by rw [evs5]; rfl) (by decide) rfl (fun ls hl => ?_)
    refine lv_goto (tgt := 52) hx hb dX5_findDigest_524 (by decide) ?_
    exact ih (k + 1) vs5 us4 (by omega) (by rw [evs5, hxk]; exact (nI_add (64 * k) 64).trans (congrArg nI (by omega))) (by rw [hBK, mo_blk_ne (by decide) (by decide) (by decide)]; exact hle) hr (hu.trans (by rw [hBK]; simp only [mo_l3])) H locs ls hN (lv_sub hl [1, 2, 3, 0] rfl)
set_option maxHeartbeats 4000000 in
set_option maxRecDepth 100000 in
theorem lp_X5_fd2 {p : Program} {l : Launch} {e : Env} {s : State} {m : MethodId} {args : Array Value} {below : List Frame} {meth : Method} {c : Code} {D : va_G} {ca : Nat → ClassId} {B : Nat → Nat} {N n : Nat} {X : va_W} (C : ww_C D ca yX5_findDigest.cls cX5_findDigest 11 wsX5_findDigest none (ww_A B N X s.heap.size) p s m args meth c) (hNN : 29 ≤ N) {pp len : Nat} (hp60 : pp ≤ 60) (hlen : len ≤ 256) (pv wv : Int32) {w0 : Nat} (hpv : pv = nI pp) (hwv : wv = nI w0) (hw0 : w0 ≤ 320) {q0 : Nat} (hq0 : w0 = 64 * q0)  {r : Option Value} {u' : ww_U} : ∀ (d k : Nat) (x : Int32) (u : ww_U), k + d = 8 → (x = nI k) → (u 13 pp = nI len) → r = none → u' = ww_up (mo_dl 32 0 (mo_l3 q0 0 pp len w0 (mo_l2 d k u))) 0 24 32 → ∀ (H : Heap) (locs : List Loc) (ls : Array Slot), ww_N D ca B N n u X (ww_A B N X s.heap.size) s.heap H locs → lv_has ls 11 [(0, .ref (B 0)), (1, .int pv), (2, .int wv), (3, .int x)] → W p l e (headSpec wsX5_findDigest ({ frames := 1, cells := 0, slots := 0, locals := 25 } : Room)).room s m args below meth c H locs 0 0 (MQ below (ww_Q D ca B N n X s.heap.size r u') args s 0 0 (ww_A B N X s.heap.size)) (F0 m 26 ls []) := by
  have hx := C.1.1
  have hb := C.1.2.1
  intro d
  induction d with
  | zero =>
    intro k x u hkd hxk hle hr hu H locs ls hN hl
    refine lv_iload_n hx hb dX5_findDigest_26 rfl (lv_at hl 3 rfl) ?_
    refine lv_bipush (v := 8) hx hb dX5_findDigest_27 (by decide) ?_
    refine lv_icmp_ge (tgt := 50) hx hb dX5_findDigest_29 (by decide) (fun c_29 => ?_) (fun c_29 => absurd c_29 (fun h => h (by rw [hxk, show k = 8 by omega]; decide)))
    refine lv_iconst (v := 0) hx hb dX5_findDigest_50 (by decide) ?_
    refine lv_istore_n (lv' := [(3, .int 0), (0, .ref (B 0)), (1, .int pv), (2, .int wv)]) hx hb dX5_findDigest_51 rfl hl (by decide) rfl (fun ls hl => ?_)
    exact lp_X5_fd3 C hNN hp60 hlen pv wv hpv hwv hw0 hq0 q0 0 0 u (by omega) rfl hle hr (hu.trans (by simp only [mo_l2])) H locs ls hN (lv_sub hl [1, 2, 3, 0] rfl)
  | succ d ih =>
    intro k x u hkd hxk hle hr hu H locs ls hN hl
    refine lv_iload_n hx hb dX5_findDigest_26 rfl (lv_at hl 3 rfl) ?_
    refine lv_bipush (v := 8) hx hb dX5_findDigest_27 (by decide) ?_
    refine lv_icmp_ge (tgt := 50) hx hb dX5_findDigest_29 (by decide) (fun c_29 => absurd c_29 (by rw [hxk]; exact (show ¬ nI 8 ≤ nI k from nI_ge (by omega) (by decide)))) (fun c_29 => ?_)
    refine lv_aload_n hx hb dX5_findDigest_32 rfl (lv_at hl 0 rfl) ?_
    refine rr_get C hN 0 (Nat.lt_of_lt_of_le (by decide) hNN) rfl rfl kw_X5_findDigest_X5 33 (by decide) (List.mem_of_getElem? (i := 2) rfl) (v := .ref (B 26)) rfl dX5_findDigest_33 ?_
    refine lv_iload_n hx hb dX5_findDigest_36 rfl (lv_at hl 3 rfl) ?_
    refine lv_aload_n hx hb dX5_findDigest_37 rfl (lv_at hl 0 rfl) ?_
    refine rr_get C hN 0 (Nat.lt_of_lt_of_le (by decide) hNN) rfl rfl kw_X5_findDigest_X5 29 (by decide) (List.mem_of_getElem? (i := 3) rfl) (v := .ref (B 22)) rfl dX5_findDigest_38 ?_
    refine lv_iload_n hx hb dX5_findDigest_41 rfl (lv_at hl 3 rfl) ?_
    refine rr_iald C hN 22 (Nat.lt_of_lt_of_le (by decide) hNN) rfl (by decide) k (by omega) hxk dX5_findDigest_42 ?_
    refine rr_iast C hN 26 (Nat.lt_of_lt_of_le (by decide) hNN) (fun _ => rfl) (by decide) k (by omega) hxk dX5_findDigest_43 (fun us1 eus1 H locs hN => ?_)
    obtain ⟨vs2, evs2⟩ : ∃ y9 : Int32, y9 = x + 1 := ⟨_, rfl⟩
    refine lv_iinc (v := vs2) (lv' := [(3, .int vs2), (0, .ref (B 0)), (1, .int pv), (2, .int wv)]) hx hb dX5_findDigest_44 hl (k := 3) rfl (by rw [evs2]; rfl) (by decide) rfl (fun ls hl => ?_)
    refine lv_goto (tgt := 26) hx hb dX5_findDigest_47 (by decide) ?_
    exact ih (k + 1) vs2 us1 (by omega) (by rw [evs2, hxk]; exact nI_1 k) (by rw [eus1]; exact hle) hr (hu.trans (by rw [eus1]; simp only [mo_l2])) H locs ls hN (lv_sub hl [1, 2, 3, 0] rfl)
set_option maxHeartbeats 4000000 in
set_option maxRecDepth 100000 in
theorem lp_X5_fd1 {p : Program} {l : Launch} {e : Env} {s : State} {m : MethodId} {args : Array Value} {below : List Frame} {meth : Method} {c : Code} {D : va_G} {ca : Nat → ClassId} {B : Nat → Nat} {N n : Nat} {X : va_W} (C : ww_C D ca yX5_findDigest.cls cX5_findDigest 11 wsX5_findDigest none (ww_A B N X s.heap.size) p s m args meth c) (hNN : 29 ≤ N) {pp len : Nat} (hp60 : pp ≤ 60) (hlen : len ≤ 256) (pv : Int32) (hpv : pv = nI pp) {q0 : Nat} (hq0 : q0 = (len + 72) / 64)  {r : Option Value} {u' : ww_U} : ∀ (d k : Nat) (x : Int32) (u : ww_U), k + d = q0 → (x = nI (64 * k)) → (u 13 pp = nI len) → (1 ≤ k) → r = none → u' = ww_up (mo_dl 32 0 (mo_l3 q0 0 pp len (64 * q0) (mo_l2 8 0 u))) 0 24 32 → ∀ (H : Heap) (locs : List Loc) (ls : Array Slot), ww_N D ca B N n u X (ww_A B N X s.heap.size) s.heap H locs → lv_has ls 11 [(0, .ref (B 0)), (1, .int pv), (2, .int x)] → W p l e (headSpec wsX5_findDigest ({ frames := 1, cells := 0, slots := 0, locals := 25 } : Room)).room s m args below meth c H locs 0 0 (MQ below (ww_Q D ca B N n X s.heap.size r u') args s 0 0 (ww_A B N X s.heap.size)) (F0 m 3 ls []) := by
  have hx := C.1.1
  have hb := C.1.2.1
  intro d
  induction d with
  | zero =>
    intro k x u hkd hxk hle hk1 hr hu H locs ls hN hl
    refine lv_iload_n hx hb dX5_findDigest_3 rfl (lv_at hl 2 rfl) ?_
    refine lv_aload_n hx hb dX5_findDigest_4 rfl (lv_at hl 0 rfl) ?_
    refine rr_get C hN 0 (Nat.lt_of_lt_of_le (by decide) hNN) rfl rfl kw_X5_findDigest_X5 15 (by decide) (List.mem_of_getElem? (i := 1) rfl) (v := .ref (B 13)) rfl dX5_findDigest_5 ?_
    refine lv_iload_n hx hb dX5_findDigest_8 rfl (lv_at hl 1 rfl) ?_
    refine rr_iald C hN 13 (Nat.lt_of_lt_of_le (by decide) hNN) rfl (by decide) pp (by omega) hpv dX5_findDigest_9 ?_
    refine lv_bipush (v := 9) hx hb dX5_findDigest_10 (by decide) ?_
    refine lv_iadd hx hb dX5_findDigest_12 ?_
    refine lv_topi (fun vz1 evz1 => ?_)
    refine lv_icmp_ge (tgt := 24) hx hb dX5_findDigest_13 (by decide) (fun c_13 => ?_) (fun c_13 => absurd c_13 (fun h => h (by rw [evz1, hle, hxk]; exact (show nI len + nI 9 ≤ nI (64 * k) by rw [nI_add]; exact nI_le (by omega) (by omega)))))
    refine lv_iconst (v := 0) hx hb dX5_findDigest_24 (by decide) ?_
    refine lv_istore_n (lv' := [(3, .int 0), (0, .ref (B 0)), (1, .int pv), (2, .int x)]) hx hb dX5_findDigest_25 rfl hl (by decide) rfl (fun ls hl => ?_)
    exact lp_X5_fd2 C hNN hp60 hlen pv x hpv (w0 := 64 * q0) (by rw [hxk, show k = q0 by omega]) (by omega) rfl 8 0 0 u (by omega) rfl hle hr hu H locs ls hN (lv_sub hl [1, 2, 3, 0] rfl)
  | succ d ih =>
    intro k x u hkd hxk hle hk1 hr hu H locs ls hN hl
    refine lv_iload_n hx hb dX5_findDigest_3 rfl (lv_at hl 2 rfl) ?_
    refine lv_aload_n hx hb dX5_findDigest_4 rfl (lv_at hl 0 rfl) ?_
    refine rr_get C hN 0 (Nat.lt_of_lt_of_le (by decide) hNN) rfl rfl kw_X5_findDigest_X5 15 (by decide) (List.mem_of_getElem? (i := 1) rfl) (v := .ref (B 13)) rfl dX5_findDigest_5 ?_
    refine lv_iload_n hx hb dX5_findDigest_8 rfl (lv_at hl 1 rfl) ?_
    refine rr_iald C hN 13 (Nat.lt_of_lt_of_le (by decide) hNN) rfl (by decide) pp (by omega) hpv dX5_findDigest_9 ?_
    refine lv_bipush (v := 9) hx hb dX5_findDigest_10 (by decide) ?_
    refine lv_iadd hx hb dX5_findDigest_12 ?_
    refine lv_topi (fun vs1 evs1 => ?_)
    refine lv_icmp_ge (tgt := 24) hx hb dX5_findDigest_13 (by decide) (fun c_13 => absurd c_13 (by rw [evs1, hle, hxk]; exact (show ¬ nI len + nI 9 ≤ nI (64 * k) by rw [nI_add]; exact nI_ge (by omega) (by omega)))) (fun c_13 => ?_)
    refine lv_iload_n hx hb dX5_findDigest_16 rfl (lv_at hl 2 rfl) ?_
    refine lv_bipush (v := 64) hx hb dX5_findDigest_17 (by decide) ?_
    refine lv_iadd hx hb dX5_findDigest_19 ?_
    refine lv_topi (fun vs2 evs2 => ?_)
    refine lv_istore_n (lv' := [(2, .int vs2), (0, .ref (B 0)), (1, .int pv)]) hx hb dX5_findDigest_20 rfl hl (by decide) rfl (fun ls hl => ?_)
    refine lv_goto (tgt := 3) hx hb dX5_findDigest_21 (by decide) ?_
    exact ih (k + 1) vs2 u (by omega) (by rw [evs2, hxk]; exact (nI_add (64 * k) 64).trans (congrArg nI (by omega))) hle (by omega) hr hu H locs ls hN (lv_sub hl [1, 2, 0] rfl)
set_option maxHeartbeats 4000000 in
set_option maxRecDepth 100000 in
theorem ct_X5_findDigest (l : Launch) {D : va_G} {ca : Nat → ClassId} {B : Nat → Nat} {N n : Nat} {X : va_W} {u : ww_U} {x : Int32} {pp len : Nat} (hp60 : pp ≤ 60) (hxp : x = nI pp) (hlen : len ≤ 256) (hle : u 13 pp = nI len) (hNN : 29 ≤ N)  : ww_M l yX5_findDigest wsX5_findDigest ({ frames := 1, cells := 0, slots := 0, locals := 25 } : Room) D ca B N n X u [.ref (B 0), .int x] none (mo_dig pp len u) := by
  refine ww_met (cc := cX5_findDigest) (maxL := 11) (ret := none) (by decide) rfl (Nat.le_of_ble_eq_true rfl) ?_
  intro p e s m args below meth c C hN ls hl
  have hl : lv_has ls 11 [(0, .ref (B 0)), (1, .int x)] := hl
  have hx := C.1.1
  have hb := C.1.2.1
  refine lv_bipush (v := 64) hx hb dX5_findDigest_0 (by decide) ?_
  refine lv_istore_n (lv' := [(2, .int 64), (0, .ref (B 0)), (1, .int x)]) hx hb dX5_findDigest_2 rfl hl (by decide) rfl (fun ls hl => ?_)
  exact lp_X5_fd1 C hNN hp60 hlen x hxp (q0 := (len + 72) / 64) rfl ((len + 72) / 64 - 1) 1 64 u (by omega) rfl hle (by omega) rfl rfl _ _ _ hN (lv_sub hl [1, 2, 0] rfl)
