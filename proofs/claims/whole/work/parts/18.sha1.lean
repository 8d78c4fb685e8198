section WS
variable {p : Program} {l : Launch} {e : Env} {R : Room} {s : State} {m : MethodId} {args : Array Value} {below : List Frame} {meth : Method} {c : Code} {H : Heap} {locs : List Loc} {cells slots : Nat} {Q : State → Prop}
variable {D : va_G} {ca : Nat → ClassId} {own : String} {cc : ByteArray} {nL : Nat} {Ts : List Cond} {ret : Option FieldType} {A : Nat → Prop} {B : Nat → Nat} {N n : Nat} {u : ww_U} {X : va_W} {pc : Nat} {ls : Array Slot} {rest : List Value}
theorem rr_gets (C : ww_C D ca own cc nL Ts ret A p s m args meth c) (hN : ww_N D ca B N n u X A s.heap H locs) {Cn nm d : String} {t index : Nat} (hZ : va_Z Cn nm d (.ref t) A s s.heap) (hlink : Cond.fieldLink own index Cn nm d ∈ Ts) (hdg : decode cc pc = .ok (.getstatic index, 3))
    (kk : W p l e R s m args below meth c H locs cells slots Q (F0 m (pc + 3) ls (.ref t :: rest))) : W p l e R s m args below meth c H locs cells slots Q (F0 m pc ls rest) :=
  va_gets C.1.1 C.1.2.1 hZ hN.2.2 C.1.2.2.2.1 (C.1.2.2.2.2 _ hlink) (fun _ h => h) hdg kk
theorem rr_tald (C : ww_C D ca own cc nL Ts ret A p s m args meth c) (hN : ww_N D ca B N n u X A s.heap H locs) {t len : Nat} {f : Nat → Int32} (hT : va_T .int t len (fun j => .int (f j)) A s s.heap) (hl : len < 2 ^ 31) {i : Int32} (j : Nat) (hj : j < len) (hij : i = nI j) (hdg : decode cc pc = .ok (.iaload, 1))
    (kk : W p l e R s m args below meth c H locs cells slots Q (F0 m (pc + 1) ls (.int (f j) :: rest))) : W p l e R s m args below meth c H locs cells slots Q (F0 m pc ls (.int i :: .ref t :: rest)) := by
  obtain ⟨h1, h2⟩ := ww_ix hj hij hl
  exact va_ti C.1.1 C.1.2.1 hT hN.2.2 h1 (by rw [h2]) hdg kk
end WS
def sh_t (x n : Int32) : Int32 := (x.toUInt32 >>> (n.toUInt32 &&& Int32.toUInt32 31)).toInt32 ||| (x <<< ((32 - n) &&& 31))
def sh_sp (x p q r : Int32) : Int32 := (sh_t x p ^^^ sh_t x q) ^^^ (x.toUInt32 >>> (r.toUInt32 &&& Int32.toUInt32 31)).toInt32
def sh_ts (x p q r : Int32) : Int32 := (sh_t x p ^^^ sh_t x q) ^^^ sh_t x r
def sh_w (u : ww_U) (j : Nat) : Int32 := ((((u 33 j &&& 255) <<< ((24 : Int32) &&& 31)) ||| ((u 33 (j + 1) &&& 255) <<< ((16 : Int32) &&& 31))) ||| ((u 33 (j + 2) &&& 255) <<< ((8 : Int32) &&& 31))) ||| (u 33 (j + 3) &&& 255)
def cl_lay : Nat → Nat → Nat → ww_U → ww_U
  | 0, _, _, u => u
  | d + 1, k, m, u => cl_lay d (k + 1) m (ww_up u 33 k (vp_nar .byte (if k < m then u 31 k else 0)))
def cl_shr (b : Int64) : Int64 := (b.toUInt64 >>> ((8 : Int32).toInt64.toUInt64 &&& Int64.toUInt64 63)).toInt64
def cl_bits : Nat → Nat → Nat → Int64 → ww_U → ww_U
  | 0, _, _, _, u => u
  | d + 1, k, T, b, u => cl_bits d (k + 1) T (cl_shr b) (ww_up u 33 (T - k) (vp_nar .byte (b.toInt32.toInt8.toInt32)))
def cl_T (m : Nat) : Nat := (m + 8 + 64) / 64 * 64
def cl_layOut (m : Nat) (u : ww_U) : ww_U := cl_bits 8 1 (cl_T m) (8 * (nI m).toInt64) (ww_up (cl_lay (cl_T m) 0 m u) 33 m (vp_nar .byte (-128)))
def cl_f1 : Nat → Nat → Nat → ww_U → ww_U
  | 0, _, _, u => u
  | d + 1, k, f, u => cl_f1 d (k + 1) f (ww_up u 34 k (sh_w u (f + 4 * k)))
def cl_f2 : Nat → Nat → ww_U → ww_U
  | 0, _, u => u
  | d + 1, k, u => cl_f2 d (k + 1) (ww_up u 34 k (((u 34 (k - 16) + sh_sp (u 34 (k - 15)) 7 18 3) + u 34 (k - 7)) + sh_sp (u 34 (k - 2)) 17 19 10))
def cl_fill (f : Nat) (u : ww_U) : ww_U := cl_f2 48 16 (cl_f1 16 0 f u)
def sh_x (h e f g k w : Int32) : Int32 := (((h + sh_ts e 6 11 25) + ((e &&& f) ^^^ ((e ^^^ (-1)) &&& g))) + k) + w
def sh_y (a b c : Int32) : Int32 := sh_ts a 2 13 22 + (((a &&& b) ^^^ (a &&& c)) ^^^ (b &&& c))
def cl_add (u : ww_U) (j : Nat) (x : Int32) : ww_U := ww_up u 35 j (u 35 j + x)
def cl_mix : Nat → Nat → ww_U → Int32 → Int32 → Int32 → Int32 → Int32 → Int32 → Int32 → Int32 → ww_U
  | 0, _, u, a, b, c, d, e, f, g, h => cl_add (cl_add (cl_add (cl_add (cl_add (cl_add (cl_add (cl_add u 0 a) 1 b) 2 c) 3 d) 4 e) 5 f) 6 g) 7 h
  | q + 1, k, u, a, b, c, d, e, f, g, h => cl_mix q (k + 1) u (sh_x h e f g (ww_cu k) (u 34 k) + sh_y a b c) a b c (d + sh_x h e f g (ww_cu k) (u 34 k)) e f g
def cl_mx (u : ww_U) : ww_U := cl_mix 64 0 u (u 35 0) (u 35 1) (u 35 2) (u 35 3) (u 35 4) (u 35 5) (u 35 6) (u 35 7)
def cl_sq : Nat → Nat → ww_U → ww_U
  | 0, _, u => u
  | d + 1, k, u => cl_sq d (k + 1) (ww_up u 35 k (ww_sq k))
def cl_dg : Nat → Nat → ww_U → ww_U
  | 0, _, u => u
  | d + 1, k, u => cl_dg d (k + 1) (cl_mx (cl_fill (64 * k) u))
def cl_digest (m : Nat) (u : ww_U) : ww_U := cl_dg (cl_T m / 64) 0 (cl_sq 8 0 (cl_layOut m u))
set_option maxHeartbeats 4000000 in
set_option maxRecDepth 100000 in
theorem ct_X2_turned (l : Launch) {D : va_G} {ca : Nat → ClassId} {B : Nat → Nat} {N n : Nat} {X : va_W} {u : ww_U} (x y : Int32) (hNB : 36 ≤ N)  : ww_M l yX2_turned wsX2_turned ({ frames := 0, cells := 0, slots := 0, locals := 0 } : Room) D ca B N n X u [.int x, .int y] (some (.int (sh_t x y))) u := by
  refine ww_met (cc := cX2_turned) (maxL := 2) (ret := (some .int)) (by decide) rfl (Nat.le_of_ble_eq_true rfl) ?_
  intro p e s m args below meth c C hN ls hl
  have hl : lv_has ls 2 [(0, .int x), (1, .int y)] := hl
  have hx := C.1.1
  have hb := C.1.2.1
  have hNN : 29 ≤ N := by omega
  refine lv_iload_n hx hb dX2_turned_0 rfl (lv_at hl 0 rfl) ?_
  refine lv_iload_n hx hb dX2_turned_1 rfl (lv_at hl 1 rfl) ?_
  refine lv_iushr hx hb dX2_turned_2 rfl ?_
  refine lv_topi (fun v1 ev1 => ?_)
  refine lv_iload_n hx hb dX2_turned_3 rfl (lv_at hl 0 rfl) ?_
  refine lv_bipush (v := 32) hx hb dX2_turned_4 (by decide) ?_
  refine lv_iload_n hx hb dX2_turned_6 rfl (lv_at hl 1 rfl) ?_
  refine lv_isub hx hb dX2_turned_7 ?_
  refine lv_topi (fun v2 ev2 => ?_)
  refine lv_ishl hx hb dX2_turned_8 ?_
  refine lv_topi (fun v3 ev3 => ?_)
  refine lv_ior hx hb dX2_turned_9 ?_
  refine lv_topi (fun v4 ev4 => ?_)
  exact rr_iret C hN dX2_turned_10 (by subst_vars; rfl) rfl
set_option maxHeartbeats 4000000 in
set_option maxRecDepth 100000 in
theorem ct_X2_spread (l : Launch) {D : va_G} {ca : Nat → ClassId} {B : Nat → Nat} {N n : Nat} {X : va_W} {u : ww_U} (x y z w : Int32) (hNB : 36 ≤ N)  : ww_M l yX2_spread wsX2_spread ({ frames := 1, cells := 0, slots := 0, locals := 21 } : Room) D ca B N n X u [.int x, .int y, .int z, .int w] (some (.int (sh_sp x y z w))) u := by
  refine ww_met (cc := cX2_spread) (maxL := 4) (ret := (some .int)) (by decide) rfl (Nat.le_of_ble_eq_true rfl) ?_
  intro p e s m args below meth c C hN ls hl
  have hl : lv_has ls 4 [(0, .int x), (1, .int y), (2, .int z), (3, .int w)] := hl
  have hx := C.1.1
  have hb := C.1.2.1
  have hNN : 29 ≤ N := by omega
  refine lv_iload_n hx hb dX2_spread_0 rfl (lv_at hl 0 rfl) ?_
  refine lv_iload_n hx hb dX2_spread_1 rfl (lv_at hl 1 rfl) ?_
  refine rr_callS (As := [.int x, .int y]) C hN (ct_X2_turned l x y hNB) gX2_spread_X2_turned rfl rfl rfl 2 (by decide +kernel) ⟨Nat.le_of_ble_eq_true rfl, Nat.le_of_ble_eq_true rfl⟩ rfl hl.1 rfl (Nat.le_of_ble_eq_true rfl) ⟨Nat.zero_le _, Nat.zero_le _⟩ dX2_spread_2 (fun H locs hN => ?_)
  refine lv_topi (fun v1 ev1 => ?_)
  refine lv_iload_n hx hb dX2_spread_5 rfl (lv_at hl 0 rfl) ?_
  refine lv_iload_n hx hb dX2_spread_6 rfl (lv_at hl 2 rfl) ?_
  refine rr_callS (As := [.int x, .int z]) C hN (ct_X2_turned l x z hNB) gX2_spread_X2_turned rfl rfl rfl 2 (by decide +kernel) ⟨Nat.le_of_ble_eq_true rfl, Nat.le_of_ble_eq_true rfl⟩ rfl hl.1 rfl (Nat.le_of_ble_eq_true rfl) ⟨Nat.zero_le _, Nat.zero_le _⟩ dX2_spread_7 (fun H locs hN => ?_)
  refine lv_topi (fun v2 ev2 => ?_)
  refine lv_ixor hx hb dX2_spread_10 ?_
  refine lv_topi (fun v3 ev3 => ?_)
  refine lv_iload_n hx hb dX2_spread_11 rfl (lv_at hl 0 rfl) ?_
  refine lv_iload_n hx hb dX2_spread_12 rfl (lv_at hl 3 rfl) ?_
  refine lv_iushr hx hb dX2_spread_13 rfl ?_
  refine lv_topi (fun v4 ev4 => ?_)
  refine lv_ixor hx hb dX2_spread_14 ?_
  refine lv_topi (fun v5 ev5 => ?_)
  exact rr_iret C hN dX2_spread_15 (by subst_vars; rfl) rfl
set_option maxHeartbeats 4000000 in
set_option maxRecDepth 100000 in
theorem ct_X2_turns (l : Launch) {D : va_G} {ca : Nat → ClassId} {B : Nat → Nat} {N n : Nat} {X : va_W} {u : ww_U} (x y z w : Int32) (hNB : 36 ≤ N)  : ww_M l yX2_turns wsX2_turns ({ frames := 1, cells := 0, slots := 0, locals := 21 } : Room) D ca B N n X u [.int x, .int y, .int z, .int w] (some (.int (sh_ts x y z w))) u := by
  refine ww_met (cc := cX2_turns) (maxL := 4) (ret := (some .int)) (by decide) rfl (Nat.le_of_ble_eq_true rfl) ?_
  intro p e s m args below meth c C hN ls hl
  have hl : lv_has ls 4 [(0, .int x), (1, .int y), (2, .int z), (3, .int w)] := hl
  have hx := C.1.1
  have hb := C.1.2.1
  have hNN : 29 ≤ N := by omega
  refine lv_iload_n hx hb dX2_turns_0 rfl (lv_at hl 0 rfl) ?_
  refine lv_iload_n hx hb dX2_turns_1 rfl (lv_at hl 1 rfl) ?_
  refine rr_callS (As := [.int x, .int y]) C hN (ct_X2_turned l x y hNB) gX2_turns_X2_turned rfl rfl rfl 2 (by decide +kernel) ⟨Nat.le_of_ble_eq_true rfl, Nat.le_of_ble_eq_true rfl⟩ rfl hl.1 rfl (Nat.le_of_ble_eq_true rfl) ⟨Nat.zero_le _, Nat.zero_le _⟩ dX2_turns_2 (fun H locs hN => ?_)
  refine lv_topi (fun v1 ev1 => ?_)
  refine lv_iload_n hx hb dX2_turns_5 rfl (lv_at hl 0 rfl) ?_
  refine lv_iload_n hx hb dX2_turns_6 rfl (lv_at hl 2 rfl) ?_
  refine rr_callS (As := [.int x, .int z]) C hN (ct_X2_turned l x z hNB) gX2_turns_X2_turned rfl rfl rfl 2 (by decide +kernel) ⟨Nat.le_of_ble_eq_true rfl, Nat.le_of_ble_eq_true rfl⟩ rfl hl.1 rfl (Nat.le_of_ble_eq_true rfl) ⟨Nat.zero_le _, Nat.zero_le _⟩ dX2_turns_7 (fun H locs hN => ?_)
  refine lv_topi (fun v2 ev2 => ?_)
  refine lv_ixor hx hb dX2_turns_10 ?_
  refine lv_topi (fun v3 ev3 => ?_)
  refine lv_iload_n hx hb dX2_turns_11 rfl (lv_at hl 0 rfl) ?_
  refine lv_iload_n hx hb dX2_turns_12 rfl (lv_at hl 3 rfl) ?_
  refine rr_callS (As := [.int x, .int w]) C hN (ct_X2_turned l x w hNB) gX2_turns_X2_turned rfl rfl rfl 2 (by decide +kernel) ⟨Nat.le_of_ble_eq_true rfl, Nat.le_of_ble_eq_true rfl⟩ rfl hl.1 rfl (Nat.le_of_ble_eq_true rfl) ⟨Nat.zero_le _, Nat.zero_le _⟩ dX2_turns_13 (fun H locs hN => ?_)
  refine lv_topi (fun v4 ev4 => ?_)
  refine lv_ixor hx hb dX2_turns_16 ?_
  refine lv_topi (fun v5 ev5 => ?_)
  exact rr_iret C hN dX2_turns_17 (by subst_vars; rfl) rfl
set_option maxRecDepth 20000 in
theorem kw_X2_wordAt_X2 : ww_K wsX2_wordAt RX2 TX2 3 tyX2 := ⟨by decide +kernel, tyX2_ok, nmX2⟩
set_option maxHeartbeats 4000000 in
set_option maxRecDepth 100000 in
theorem ct_X2_wordAt (l : Launch) {D : va_G} {ca : Nat → ClassId} {B : Nat → Nat} {N n : Nat} {X : va_W} {u : ww_U} {x : Int32} {j : Nat} (hj : j + 3 < 320) (hxj : x = nI j) (hNB : 36 ≤ N)  : ww_M l yX2_wordAt wsX2_wordAt ({ frames := 0, cells := 0, slots := 0, locals := 0 } : Room) D ca B N n X u [.ref (B 32), .int x] (some (.int (sh_w u j))) u := by
  refine ww_met (cc := cX2_wordAt) (maxL := 2) (ret := (some .int)) (by decide) rfl (Nat.le_of_ble_eq_true rfl) ?_
  intro p e s m args below meth c C hN ls hl
  have hl : lv_has ls 2 [(0, .ref (B 32)), (1, .int x)] := hl
  have hx := C.1.1
  have hb := C.1.2.1
  have hNN : 29 ≤ N := by omega
  refine lv_aload_n hx hb dX2_wordAt_0 rfl (lv_at hl 0 rfl) ?_
  refine rr_get C hN 32 (Nat.lt_of_lt_of_le (by decide) hNB) rfl rfl kw_X2_wordAt_X2 0 (by decide) (List.mem_of_getElem? (i := 1) rfl) (v := .ref (B 33)) rfl dX2_wordAt_1 ?_
  refine lv_iload_n hx hb dX2_wordAt_4 rfl (lv_at hl 1 rfl) ?_
  refine rr_bald C hN 33 (Nat.lt_of_lt_of_le (by decide) hNB) rfl (by decide) j (by omega) hxj dX2_wordAt_5 ?_
  refine lv_sipush (v := 255) hx hb dX2_wordAt_6 (by decide) ?_
  refine lv_iand hx hb dX2_wordAt_9 ?_
  refine lv_topi (fun v1 ev1 => ?_)
  refine lv_bipush (v := 24) hx hb dX2_wordAt_10 (by decide) ?_
  refine lv_ishl hx hb dX2_wordAt_12 ?_
  refine lv_topi (fun v2 ev2 => ?_)
  refine lv_aload_n hx hb dX2_wordAt_13 rfl (lv_at hl 0 rfl) ?_
  refine rr_get C hN 32 (Nat.lt_of_lt_of_le (by decide) hNB) rfl rfl kw_X2_wordAt_X2 0 (by decide) (List.mem_of_getElem? (i := 1) rfl) (v := .ref (B 33)) rfl dX2_wordAt_14 ?_
  refine lv_iload_n hx hb dX2_wordAt_17 rfl (lv_at hl 1 rfl) ?_
  refine lv_iconst (v := 1) hx hb dX2_wordAt_18 (by decide) ?_
  refine lv_iadd hx hb dX2_wordAt_19 ?_
  refine lv_topi (fun v3 ev3 => ?_)
  refine rr_bald C hN 33 (Nat.lt_of_lt_of_le (by decide) hNB) rfl (by decide) (j + 1) (by omega) (by rw [ev3, hxj]; exact nI_add j 1) dX2_wordAt_20 ?_
  refine lv_sipush (v := 255) hx hb dX2_wordAt_21 (by decide) ?_
  refine lv_iand hx hb dX2_wordAt_24 ?_
  refine lv_topi (fun v4 ev4 => ?_)
  refine lv_bipush (v := 16) hx hb dX2_wordAt_25 (by decide) ?_
  refine lv_ishl hx hb dX2_wordAt_27 ?_
  refine lv_topi (fun v5 ev5 => ?_)
  refine lv_ior hx hb dX2_wordAt_28 ?_
  refine lv_topi (fun v6 ev6 => ?_)
  refine lv_aload_n hx hb dX2_wordAt_29 rfl (lv_at hl 0 rfl) ?_
  refine rr_get C hN 32 (Nat.lt_of_lt_of_le (by decide) hNB) rfl rfl kw_X2_wordAt_X2 0 (by decide) (List.mem_of_getElem? (i := 1) rfl) (v := .ref (B 33)) rfl dX2_wordAt_30 ?_
  refine lv_iload_n hx hb dX2_wordAt_33 rfl (lv_at hl 1 rfl) ?_
  refine lv_iconst (v := 2) hx hb dX2_wordAt_34 (by decide) ?_
  refine lv_iadd hx hb dX2_wordAt_35 ?_
  refine lv_topi (fun v7 ev7 => ?_)
  refine rr_bald C hN 33 (Nat.lt_of_lt_of_le (by decide) hNB) rfl (by decide) (j + 2) (by omega) (by rw [ev7, hxj]; exact nI_add j 2) dX2_wordAt_36 ?_
  refine lv_sipush (v := 255) hx hb dX2_wordAt_37 (by decide) ?_
  refine lv_iand hx hb dX2_wordAt_40 ?_
  refine lv_topi (fun v8 ev8 => ?_)
  refine lv_bipush (v := 8) hx hb dX2_wordAt_41 (by decide) ?_
  refine lv_ishl hx hb dX2_wordAt_43 ?_
  refine lv_topi (fun v9 ev9 => ?_)
  refine lv_ior hx hb dX2_wordAt_44 ?_
  refine lv_topi (fun v10 ev10 => ?_)
  refine lv_aload_n hx hb dX2_wordAt_45 rfl (lv_at hl 0 rfl) ?_
  refine rr_get C hN 32 (Nat.lt_of_lt_of_le (by decide) hNB) rfl rfl kw_X2_wordAt_X2 0 (by decide) (List.mem_of_getElem? (i := 1) rfl) (v := .ref (B 33)) rfl dX2_wordAt_46 ?_
  refine lv_iload_n hx hb dX2_wordAt_49 rfl (lv_at hl 1 rfl) ?_
  refine lv_iconst (v := 3) hx hb dX2_wordAt_50 (by decide) ?_
  refine lv_iadd hx hb dX2_wordAt_51 ?_
  refine lv_topi (fun v11 ev11 => ?_)
  refine rr_bald C hN 33 (Nat.lt_of_lt_of_le (by decide) hNB) rfl (by decide) (j + 3) (by omega) (by rw [ev11, hxj]; exact nI_add j 3) dX2_wordAt_52 ?_
  refine lv_sipush (v := 255) hx hb dX2_wordAt_53 (by decide) ?_
  refine lv_iand hx hb dX2_wordAt_56 ?_
  refine lv_topi (fun v12 ev12 => ?_)
  refine lv_ior hx hb dX2_wordAt_57 ?_
  refine lv_topi (fun v13 ev13 => ?_)
  exact rr_iret C hN dX2_wordAt_58 (by subst_vars; rfl) rfl
set_option maxRecDepth 20000 in
theorem kw_X2_layOut_X2 : ww_K wsX2_layOut RX2 TX2 3 tyX2 := ⟨by decide +kernel, tyX2_ok, nmX2⟩
set_option maxHeartbeats 4000000 in
set_option maxRecDepth 100000 in
theorem lp_X2_layOut2 {p : Program} {l : Launch} {e : Env} {s : State} {m : MethodId} {args : Array Value} {below : List Frame} {meth : Method} {c : Code} {D : va_G} {ca : Nat → ClassId} {B : Nat → Nat} {N n : Nat} {X : va_W} (C : ww_C D ca yX2_layOut.cls cX2_layOut 7 wsX2_layOut (some .int) (ww_A B N X s.heap.size) p s m args meth c) (hNB : 36 ≤ N) (cnt tot : Int32) {T : Nat} (hT : T ≤ 320) (hT8 : 64 ≤ T) (htot : tot = nI T) {r : Option Value} {u' : ww_U} : ∀ (d k : Nat) (x : Int32) (bb : Int64) (u : ww_U), k + d = 9 → 1 ≤ k → x = nI k → r = some (.int tot) → u' = cl_bits d k T bb u → ∀ (H : Heap) (locs : List Loc) (ls : Array Slot), ww_N D ca B N n u X (ww_A B N X s.heap.size) s.heap H locs → lv_has ls 7 [(0, .ref (B 32)), (1, .ref (B 31)), (2, .int cnt), (3, .int tot), (4, .long bb), (6, .int x)] → W p l e (headSpec wsX2_layOut ({ frames := 0, cells := 0, slots := 0, locals := 0 } : Room)).room s m args below meth c H locs 0 0 (MQ below (ww_Q D ca B N n X s.heap.size r u') args s 0 0 (ww_A B N X s.heap.size)) (F0 m 69 ls []) := by
  have hx := C.1.1
  have hb := C.1.2.1
  have hNN : 29 ≤ N := by omega
  intro d
  induction d with
  | zero =>
    intro k x bb u hkd hk1 hxk hr hu H locs ls hN hl
    refine lv_iload hx hb dX2_layOut_69 (lv_at hl 5 rfl) ?_
    refine lv_bipush (v := 8) hx hb dX2_layOut_71 (by decide) ?_
    refine lv_icmp_gt (tgt := 102) hx hb dX2_layOut_73 (by decide) (fun c_73 => ?_) (fun c_73 => absurd c_73 (fun h => h (by rw [hxk, show k = 9 by omega]; decide)))
    refine lv_iload_n hx hb dX2_layOut_102 rfl (lv_at hl 3 rfl) ?_
    exact rr_iret C hN dX2_layOut_103 hr hu
  | succ d ih =>
    intro k x bb u hkd hk1 hxk hr hu H locs ls hN hl
    refine lv_iload hx hb dX2_layOut_69 (lv_at hl 5 rfl) ?_
    refine lv_bipush (v := 8) hx hb dX2_layOut_71 (by decide) ?_
    refine lv_icmp_gt (tgt := 102) hx hb dX2_layOut_73 (by decide) (fun c_73 => absurd c_73 (by rw [hxk]; exact (show ¬ nI 8 < nI k from nI_nlt (by omega) (by omega)))) (fun c_73 => ?_)
    refine lv_aload_n hx hb dX2_layOut_76 rfl (lv_at hl 0 rfl) ?_
    refine rr_get C hN 32 (Nat.lt_of_lt_of_le (by decide) hNB) rfl rfl kw_X2_layOut_X2 0 (by decide) (List.mem_of_getElem? (i := 1) rfl) (v := .ref (B 33)) rfl dX2_layOut_77 ?_
    refine lv_iload_n hx hb dX2_layOut_80 rfl (lv_at hl 3 rfl) ?_
    refine lv_iload hx hb dX2_layOut_81 (lv_at hl 5 rfl) ?_
    refine lv_isub hx hb dX2_layOut_83 ?_
    refine lv_topi (fun vs1 evs1 => ?_)
    refine lv_lload hx hb dX2_layOut_84 (lv_at hl 4 rfl) ?_
    refine lv_l2i hx hb dX2_layOut_86 rfl ?_
    refine lv_topi (fun vs2 evs2 => ?_)
    refine lv_i2b hx hb dX2_layOut_87 rfl ?_
    refine lv_topi (fun vs3 evs3 => ?_)
    refine rr_bast C hN 33 (Nat.lt_of_lt_of_le (by decide) hNB) (fun _ => rfl) (by decide) (T - k) (by omega) (by rw [evs1, htot, hxk]; exact pk_sub (by omega)) dX2_layOut_88 (fun us4 eus4 H locs hN => ?_)
    refine lv_lload hx hb dX2_layOut_89 (lv_at hl 4 rfl) ?_
    refine lv_bipush (v := 8) hx hb dX2_layOut_91 (by decide) ?_
    refine lv_lushr hx hb dX2_layOut_93 rfl ?_
    refine lv_topl (fun vs5 evs5 => ?_)
    refine lv_lstore (lv' := [(4, .long vs5), (0, .ref (B 32)), (1, .ref (B 31)), (2, .int cnt), (3, .int tot), (6, .int x)]) hx hb dX2_layOut_94 hl (by decide) rfl (fun ls hl => ?_)
    obtain ⟨vs6, evs6⟩ : ∃ y9 : Int32, y9 = x + 1 := ⟨_, rfl⟩
    refine lv_iinc (v := vs6) (lv' := [(6, .int vs6), (4, .long vs5), (0, .ref (B 32)), (1, .ref (B 31)), (2, .int cnt), (3, .int tot)]) hx hb dX2_layOut_96 hl (k := 5) rfl (by rw [evs6]; rfl) (by decide) rfl (fun ls hl => ?_)
    refine lv_goto (tgt := 69) hx hb dX2_layOut_99 (by decide) ?_
    exact ih (k + 1) vs6 vs5 us4 (by omega) (by omega) (by rw [evs6, hxk]; exact nI_1 k) hr (hu.trans (by subst_vars; rfl)) H locs ls hN (lv_sub hl [2, 3, 4, 5, 1, 0] rfl)
set_option maxHeartbeats 4000000 in
set_option maxRecDepth 100000 in
theorem lp_X2_layOut1 {p : Program} {l : Launch} {e : Env} {s : State} {m : MethodId} {args : Array Value} {below : List Frame} {meth : Method} {c : Code} {D : va_G} {ca : Nat → ClassId} {B : Nat → Nat} {N n : Nat} {X : va_W} (C : ww_C D ca yX2_layOut.cls cX2_layOut 7 wsX2_layOut (some .int) (ww_A B N X s.heap.size) p s m args meth c) (hNB : 36 ≤ N) (cnt tot : Int32) {mm T : Nat} (hm : mm ≤ 256) (hmT : mm + 9 ≤ T) (hcm : cnt = nI mm) (hT : T ≤ 320) (htot : tot = nI T) (hT8 : 64 ≤ T)  {r : Option Value} {u' : ww_U} : ∀ (d k : Nat) (x : Int32) (u : ww_U), k + d = T → (x = nI k) → r = some (.int tot) → u' = cl_bits 8 1 T (8 * (nI mm).toInt64) (ww_up (cl_lay d k mm u) 33 mm (vp_nar .byte (-128))) → ∀ (H : Heap) (locs : List Loc) (ls : Array Slot), ww_N D ca B N n u X (ww_A B N X s.heap.size) s.heap H locs → lv_has ls 7 [(0, .ref (B 32)), (1, .ref (B 31)), (2, .int cnt), (3, .int tot), (4, .int x)] → W p l e (headSpec wsX2_layOut ({ frames := 0, cells := 0, slots := 0, locals := 0 } : Room)).room s m args below meth c H locs 0 0 (MQ below (ww_Q D ca B N n X s.heap.size r u') args s 0 0 (ww_A B N X s.heap.size)) (F0 m 17 ls []) := by
  have hx := C.1.1
  have hb := C.1.2.1
  have hNN : 29 ≤ N := by omega
  intro d
  induction d with
  | zero =>
    intro k x u hkd hxk hr hu H locs ls hN hl
    refine lv_iload hx hb dX2_layOut_17 (lv_at hl 4 rfl) ?_
    refine lv_iload_n hx hb dX2_layOut_19 rfl (lv_at hl 3 rfl) ?_
    refine lv_icmp_ge (tgt := 50) hx hb dX2_layOut_20 (by decide) (fun c_20 => ?_) (fun c_20 => absurd c_20 (fun h => h (by rw [htot, hxk, show k = T by omega]; exact nI_le (Nat.le_refl _) (by omega))))
    refine lv_aload_n hx hb dX2_layOut_50 rfl (lv_at hl 0 rfl) ?_
    refine rr_get C hN 32 (Nat.lt_of_lt_of_le (by decide) hNB) rfl rfl kw_X2_layOut_X2 0 (by decide) (List.mem_of_getElem? (i := 1) rfl) (v := .ref (B 33)) rfl dX2_layOut_51 ?_
    refine lv_iload_n hx hb dX2_layOut_54 rfl (lv_at hl 2 rfl) ?_
    refine lv_bipush (v := (-128)) hx hb dX2_layOut_55 (by decide) ?_
    refine rr_bast C hN 33 (Nat.lt_of_lt_of_le (by decide) hNB) (fun _ => rfl) (by decide) mm (by omega) hcm dX2_layOut_57 (fun uz1 euz1 H locs hN => ?_)
    refine lv_ldc2 (v := 8) hx hb C.1.2.2.2.1 (C.1.2.2.2.2 _ (List.mem_of_getElem? (i := 2) rfl)) dX2_layOut_58 ?_
    refine lv_iload_n hx hb dX2_layOut_61 rfl (lv_at hl 2 rfl) ?_
    refine lv_i2l hx hb dX2_layOut_62 rfl ?_
    refine lv_topl (fun vz2 evz2 => ?_)
    refine lv_lmul hx hb dX2_layOut_63 ?_
    refine lv_topl (fun vz3 evz3 => ?_)
    refine lv_lstore (lv' := [(4, .long vz3), (0, .ref (B 32)), (1, .ref (B 31)), (2, .int cnt), (3, .int tot)]) hx hb dX2_layOut_64 hl (by decide) rfl (fun ls hl => ?_)
    refine lv_iconst (v := 1) hx hb dX2_layOut_66 (by decide) ?_
    refine lv_istore (lv' := [(6, .int 1), (4, .long vz3), (0, .ref (B 32)), (1, .ref (B 31)), (2, .int cnt), (3, .int tot)]) hx hb dX2_layOut_67 hl (by decide) rfl (fun ls hl => ?_)
    exact lp_X2_layOut2 C hNB cnt tot hT hT8 htot 8 1 1 vz3 uz1 (by omega) (by omega) rfl hr (hu.trans (by subst_vars; rfl)) H locs ls hN (lv_sub hl [2, 3, 4, 5, 1, 0] rfl)
  | succ d ih =>
    intro k x u hkd hxk hr hu H locs ls hN hl
    refine lv_iload hx hb dX2_layOut_17 (lv_at hl 4 rfl) ?_
    refine lv_iload_n hx hb dX2_layOut_19 rfl (lv_at hl 3 rfl) ?_
    refine lv_icmp_ge (tgt := 50) hx hb dX2_layOut_20 (by decide) (fun c_20 => absurd c_20 (by rw [htot, hxk]; exact nI_ge (by omega) (by omega))) (fun c_20 => ?_)
    refine lv_aload_n hx hb dX2_layOut_23 rfl (lv_at hl 0 rfl) ?_
    refine rr_get C hN 32 (Nat.lt_of_lt_of_le (by decide) hNB) rfl rfl kw_X2_layOut_X2 0 (by decide) (List.mem_of_getElem? (i := 1) rfl) (v := .ref (B 33)) rfl dX2_layOut_24 ?_
    refine lv_iload hx hb dX2_layOut_27 (lv_at hl 4 rfl) ?_
    refine lv_iload hx hb dX2_layOut_29 (lv_at hl 4 rfl) ?_
    refine lv_iload_n hx hb dX2_layOut_31 rfl (lv_at hl 2 rfl) ?_
    refine lv_icmp_ge (tgt := 42) hx hb dX2_layOut_32 (by decide) (fun c_32 => ?_) (fun c_32 => ?_)
    · have hkm : ¬ k < mm := fun q => nI_ge q (by omega) (by rw [← hcm, ← hxk]; exact c_32)
      refine lv_iconst (v := 0) hx hb dX2_layOut_42 (by decide) ?_
      refine rr_bast C hN 33 (Nat.lt_of_lt_of_le (by decide) hNB) (fun _ => rfl) (by decide) k (by omega) hxk dX2_layOut_43 (fun us1 eus1 H locs hN => ?_)
      obtain ⟨vs2, evs2⟩ : ∃ y9 : Int32, y9 = x + 1 := ⟨_, rfl⟩
      refine lv_iinc (v := vs2) (lv' := [(4, .int vs2), (0, .ref (B 32)), (1, .ref (B 31)), (2, .int cnt), (3, .int tot)]) hx hb dX2_layOut_44 hl (k := 4) rfl (by rw [evs2]; rfl) (by decide) rfl (fun ls hl => ?_)
      refine lv_goto (tgt := 17) hx hb dX2_layOut_47 (by decide) ?_
      exact ih (k + 1) vs2 us1 (by omega) (by rw [evs2, hxk]; exact nI_1 k) hr (hu.trans (by rw [eus1]; simp only [cl_lay, hkm, if_true, if_false, ite_true, ite_false, if_pos, if_neg, not_false_eq_true])) H locs ls hN (lv_sub hl [1, 2, 3, 4, 0] rfl)
    · have hkm : k < mm := by rcases Nat.lt_or_ge k mm with q | q; exact q; exact absurd (by rw [hcm, hxk]; exact nI_le q (by omega)) c_32
      refine lv_aload_n hx hb dX2_layOut_35 rfl (lv_at hl 1 rfl) ?_
      refine lv_iload hx hb dX2_layOut_36 (lv_at hl 4 rfl) ?_
      refine rr_bald C hN 31 (Nat.lt_of_lt_of_le (by decide) hNB) rfl (by decide) k (by omega) hxk dX2_layOut_38 ?_
      refine lv_goto (tgt := 43) hx hb dX2_layOut_39 (by decide) ?_
      refine rr_bast C hN 33 (Nat.lt_of_lt_of_le (by decide) hNB) (fun _ => rfl) (by decide) k (by omega) hxk dX2_layOut_43 (fun us3 eus3 H locs hN => ?_)
      obtain ⟨vs4, evs4⟩ : ∃ y9 : Int32, y9 = x + 1 := ⟨_, rfl⟩
      refine lv_iinc (v := vs4) (lv' := [(4, .int vs4), (0, .ref (B 32)), (1, .ref (B 31)), (2, .int cnt), (3, .int tot)]) hx hb dX2_layOut_44 hl (k := 4) rfl (by rw [evs4]; rfl) (by decide) rfl (fun ls hl => ?_)
      refine lv_goto (tgt := 17) hx hb dX2_layOut_47 (by decide) ?_
      exact ih (k + 1) vs4 us3 (by omega) (by rw [evs4, hxk]; exact nI_1 k) hr (hu.trans (by rw [eus3]; simp only [cl_lay, hkm, if_true, if_false, ite_true, ite_false, if_pos, if_neg, not_false_eq_true])) H locs ls hN (lv_sub hl [1, 2, 3, 4, 0] rfl)
