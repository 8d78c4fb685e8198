def mo_pad (u : ww_U) (p len i w : Nat) : Int32 := if i < len then u 19 (256 * p + i) else if i = len then 128 else if w - 1 - i < 4 then ((8 * nI len) >>> ((8 * nI (w - 1 - i)) &&& 31)) &&& 255 else 0
def mo_l5 : Nat → Nat → Nat → Nat → Nat → Nat → Nat → ww_U → ww_U
  | 0, _, _, _, _, _, _, u => u
  | d + 1, k, t, p, len, a, w, u => mo_l5 d (k + 1) t p len a w (ww_up u 27 t (u 27 t * 256 + mo_pad u p len (a + 4 * t + k) w))
def mo_l4s (k p len a w : Nat) (u : ww_U) : ww_U := if k < 16 then mo_l5 4 0 k p len a w (ww_up u 27 k 0) else ww_up u 27 k (((u 27 (k - 16) + u 27 (k - 7)) + sh_sp (u 27 (k - 15)) 7 18 3) + sh_sp (u 27 (k - 2)) 17 19 10)
def mo_l4 : Nat → Nat → Nat → Nat → Nat → Nat → ww_U → ww_U
  | 0, _, _, _, _, _, u => u
  | d + 1, k, p, len, a, w, u => mo_l4 d (k + 1) p len a w (mo_l4s k p len a w u)
def mo_l6 : Nat → Nat → ww_U → ww_U
  | 0, _, u => u
  | d + 1, k, u => mo_l6 d (k + 1) (ww_up u 28 k (u 26 k))
def mo_at (u : ww_U) (k : Int32) (t : Nat) : Int32 := u 28 (mo_m8 (k - nI t))
def mo_x (u : ww_U) (t : Nat) : Int32 := (((mo_at u 7 t + sh_ts (mo_at u 4 t) 6 11 25) + ((mo_at u 4 t &&& mo_at u 5 t) ||| ((mo_at u 4 t ^^^ (-1)) &&& mo_at u 6 t))) + u 23 t) + u 27 t
def mo_y (u : ww_U) (t : Nat) : Int32 := sh_ts (mo_at u 0 t) 2 13 22 + (((mo_at u 0 t &&& mo_at u 1 t) ||| (mo_at u 0 t &&& mo_at u 2 t)) ||| (mo_at u 1 t &&& mo_at u 2 t))
def mo_rnd (u : ww_U) (t : Nat) : ww_U := ww_up (ww_up u 28 (mo_m8 (3 - nI t)) (mo_at u 3 t + mo_x u t)) 28 (mo_m8 (7 - nI t)) (mo_x u t + mo_y u t)
def mo_l7 : Nat → Nat → ww_U → ww_U
  | 0, _, u => u
  | d + 1, k, u => mo_l7 d (k + 1) (mo_rnd u k)
def mo_l8 : Nat → Nat → ww_U → ww_U
  | 0, _, u => u
  | d + 1, k, u => mo_l8 d (k + 1) (ww_up u 26 k (u 26 k + u 28 k))
def mo_blk (k p len w : Nat) (u : ww_U) : ww_U := mo_l8 8 0 (mo_l7 64 0 (mo_l6 8 0 (mo_l4 64 0 p len (64 * k) w u)))
def mo_l3 : Nat → Nat → Nat → Nat → Nat → ww_U → ww_U
  | 0, _, _, _, _, u => u
  | d + 1, k, p, len, w, u => mo_l3 d (k + 1) p len w (mo_blk k p len w u)
def mo_l2 : Nat → Nat → ww_U → ww_U
  | 0, _, u => u
  | d + 1, k, u => mo_l2 d (k + 1) (ww_up u 26 k (u 22 k))
def mo_ob (u : ww_U) (k : Nat) : Int32 := ((u 26 (k / 4)) >>> ((8 * (3 - (nI k - nI k / 4 * 4))) &&& 31)) &&& 255
def mo_dl : Nat → Nat → ww_U → ww_U
  | 0, _, u => u
  | d + 1, k, u => mo_dl d (k + 1) (ww_up u 21 k (mo_ob u k))
def mo_dig (p len : Nat) (u : ww_U) : ww_U := ww_up (mo_dl 32 0 (mo_l3 ((len + 72) / 64) 0 p len (64 * ((len + 72) / 64)) (mo_l2 8 0 u))) 0 24 32
set_option maxRecDepth 20000 in
theorem kw_X5_padded_X5 : ww_K wsX5_padded RX5 TX5 36 tyX5 := ⟨by decide +kernel, tyX5_ok, nmX5⟩
set_option maxHeartbeats 4000000 in
set_option maxRecDepth 100000 in
theorem ct_X5_padded (l : Launch) {D : va_G} {ca : Nat → ClassId} {B : Nat → Nat} {N n : Nat} {X : va_W} {u : ww_U} {x y z : Int32} {pp ii w0 len : Nat} (hp60 : pp ≤ 60) (hxp : x = nI pp) (hxi : y = nI ii) (hxw : z = nI w0) (hw0 : w0 ≤ 400) (hiw : ii < w0) (hlen : len ≤ 256) (hle : u 13 pp = nI len) (hNN : 29 ≤ N)  : ww_M l yX5_padded wsX5_padded ({ frames := 0, cells := 0, slots := 0, locals := 0 } : Room) D ca B N n X u [.ref (B 0), .int x, .int y, .int z] (some (.int (mo_pad u pp len ii w0))) u := by
  refine ww_met (cc := cX5_padded) (maxL := 6) (ret := (some .int)) (by decide) rfl (Nat.le_of_ble_eq_true rfl) ?_
  intro p e s m args below meth c C hN ls hl
  have hl : lv_has ls 6 [(0, .ref (B 0)), (1, .int x), (2, .int y), (3, .int z)] := hl
  have hx := C.1.1
  have hb := C.1.2.1
  refine lv_aload_n hx hb dX5_padded_0 rfl (lv_at hl 0 rfl) ?_
  refine rr_get C hN 0 (Nat.lt_of_lt_of_le (by decide) hNN) rfl rfl kw_X5_padded_X5 15 (by decide) (List.mem_of_getElem? (i := 1) rfl) (v := .ref (B 13)) rfl dX5_padded_1 ?_
  refine lv_iload_n hx hb dX5_padded_4 rfl (lv_at hl 1 rfl) ?_
  refine rr_iald C hN 13 (Nat.lt_of_lt_of_le (by decide) hNN) rfl (by decide) pp (by omega) hxp dX5_padded_5 ?_
  refine lv_istore (lv' := [(4, .int (u 13 pp)), (0, .ref (B 0)), (1, .int x), (2, .int y), (3, .int z)]) hx hb dX5_padded_6 hl (by decide) rfl (fun ls hl => ?_)
  refine lv_iload_n hx hb dX5_padded_8 rfl (lv_at hl 3 rfl) ?_
  refine lv_iload hx hb dX5_padded_9 (lv_at hl 0 rfl) ?_
  refine lv_icmp_ge (tgt := 27) hx hb dX5_padded_11 (by decide) (fun c_11 => ?_) (fun c_11 => ?_)
  · refine lv_iload_n hx hb dX5_padded_27 rfl (lv_at hl 3 rfl) ?_
    refine lv_iload hx hb dX5_padded_28 (lv_at hl 0 rfl) ?_
    refine lv_icmp_ne (tgt := 37) hx hb dX5_padded_30 (by decide) (fun c_30 => ?_) (fun c_30 => ?_)
    · refine lv_iload_n hx hb dX5_padded_37 rfl (lv_at hl 4 rfl) ?_
      refine lv_iconst (v := 1) hx hb dX5_padded_38 (by decide) ?_
      refine lv_isub hx hb dX5_padded_39 ?_
      refine lv_topi (fun v1 ev1 => ?_)
      refine lv_iload_n hx hb dX5_padded_40 rfl (lv_at hl 3 rfl) ?_
      refine lv_isub hx hb dX5_padded_41 ?_
      refine lv_topi (fun v2 ev2 => ?_)
      refine lv_istore (lv' := [(5, .int v2), (4, .int (u 13 pp)), (0, .ref (B 0)), (1, .int x), (2, .int y), (3, .int z)]) hx hb dX5_padded_42 hl (by decide) rfl (fun ls hl => ?_)
      have hB : v2 = nI (w0 - 1 - ii) := by rw [ev2, ev1, hxw, hxi]; exact (congrArg (fun z : Int32 => z - nI ii) (pk_sub (a := w0) (b := 1) (by omega))).trans (pk_sub (by omega))
      refine lv_iload hx hb dX5_padded_44 (lv_at hl 0 rfl) ?_
      refine lv_iconst (v := 4) hx hb dX5_padded_46 (by decide) ?_
      refine lv_icmp_ge (tgt := 68) hx hb dX5_padded_47 (by decide) (fun c_47 => ?_) (fun c_47 => ?_)
      · refine lv_iconst (v := 0) hx hb dX5_padded_68 (by decide) ?_
        exact rr_iret C hN dX5_padded_69 (by unfold mo_pad; rw [if_neg (fun z => nI_ge z (by omega) (by rw [← hle, ← hxi]; exact c_11)), if_neg (fun z => c_30 (by rw [hxi, hle, z])), if_neg (fun z => nI_ge z (by decide) (by rw [← hB]; exact c_47))]) rfl
      · refine lv_bipush (v := 8) hx hb dX5_padded_50 (by decide) ?_
        refine lv_iload hx hb dX5_padded_52 (lv_at hl 1 rfl) ?_
        refine lv_imul hx hb dX5_padded_54 ?_
        refine lv_topi (fun v3 ev3 => ?_)
        refine lv_bipush (v := 8) hx hb dX5_padded_55 (by decide) ?_
        refine lv_iload hx hb dX5_padded_57 (lv_at hl 0 rfl) ?_
        refine lv_imul hx hb dX5_padded_59 ?_
        refine lv_topi (fun v4 ev4 => ?_)
        refine lv_ishr hx hb dX5_padded_60 ?_
        refine lv_topi (fun v5 ev5 => ?_)
        refine lv_sipush (v := 255) hx hb dX5_padded_61 (by decide) ?_
        refine lv_iand hx hb dX5_padded_64 ?_
        refine lv_topi (fun v6 ev6 => ?_)
        refine lv_goto (tgt := 69) hx hb dX5_padded_65 (by decide) ?_
        exact rr_iret C hN dX5_padded_69 (by unfold mo_pad; rw [if_neg (fun z => nI_ge z (by omega) (by rw [← hle, ← hxi]; exact c_11)), if_neg (fun z => c_30 (by rw [hxi, hle, z])), if_pos (by rcases Nat.lt_or_ge (w0 - 1 - ii) 4 with z | z; exact z; exact absurd (by rw [hB]; exact (show nI 4 ≤ nI (w0 - 1 - ii) from nI_le z (by omega))) c_47), ev6, ev5, ev3, ev4, hB, hle]) rfl
    · refine lv_sipush (v := 128) hx hb dX5_padded_33 (by decide) ?_
      exact rr_iret C hN dX5_padded_36 (by unfold mo_pad; rw [if_neg (fun z => nI_ge z (by omega) (by rw [← hle, ← hxi]; exact c_11)), if_pos ((nI_eq (by omega) (by omega)).mp (by rw [← hxi, ← hle]; exact c_30))]) rfl
  · refine lv_aload_n hx hb dX5_padded_14 rfl (lv_at hl 1 rfl) ?_
    refine rr_get C hN 0 (Nat.lt_of_lt_of_le (by decide) hNN) rfl rfl kw_X5_padded_X5 21 (by decide) (List.mem_of_getElem? (i := 2) rfl) (v := .ref (B 19)) rfl dX5_padded_15 ?_
    refine lv_sipush (v := 256) hx hb dX5_padded_18 (by decide) ?_
    refine lv_iload_n hx hb dX5_padded_21 rfl (lv_at hl 2 rfl) ?_
    refine lv_imul hx hb dX5_padded_22 ?_
    refine lv_topi (fun v7 ev7 => ?_)
    refine lv_iload_n hx hb dX5_padded_23 rfl (lv_at hl 3 rfl) ?_
    refine lv_iadd hx hb dX5_padded_24 ?_
    refine lv_topi (fun v8 ev8 => ?_)
    refine rr_iald C hN 19 (Nat.lt_of_lt_of_le (by decide) hNN) rfl (by decide) (256 * pp + ii) (by rcases Nat.lt_or_ge ii len with z | z; omega; exact absurd (by rw [hle, hxi]; exact nI_le z (by omega)) c_11) (by rw [ev8, ev7, hxp, hxi]; exact (congrArg (fun z : Int32 => z + nI ii) (pk_mul 256 pp)).trans (nI_add _ _)) dX5_padded_25 ?_
    exact rr_iret C hN dX5_padded_26 (by unfold mo_pad; rw [if_pos (show ii < len from by rcases Nat.lt_or_ge ii len with z | z; exact z; exact absurd (by rw [hle, hxi]; exact nI_le z (by omega)) c_11)]) rfl
