def mo_cp : Nat → Nat → Nat → ww_U → ww_U
  | 0, _, _, u => u
  | d + 1, k, p, u => mo_cp d (k + 1) p (ww_up u 19 (256 * p + k) (u 20 k))
def mo_refuse (u : ww_U) (q : Nat) (ed z : Int32) : Int32 := if ed < 1 then -2 else if 1000 < ed then -2 else if u 0 22 = 0 then -2 else if mo_st u q < 2 then (if u 0 12 = 60 then -4 else if z = 0 then -5 else if u 20 0 = u 1 q then (if u 3 q < ed then 0 else -7) else -6) else -3
def mo_out (u : ww_U) (q : Nat) : ww_U := if u 4 q ≤ 0 then u else ww_up u 17 (mo_rd u 4 q) 0
def mo_new (u : ww_U) (q P g : Nat) (ed : Int32) : ww_U := ww_up (ww_up (ww_up (ww_up (ww_up (ww_up (ww_up u 0 12 (nI (P + 1))) 4 q (nI (P + 1))) 11 (P + 1) (nI q)) 12 (P + 1) ed) 13 (P + 1) (nI g)) 14 (P + 1) 1) 17 (P + 1) (nI (P + 1))
def mo_pk (u : ww_U) (q P g : Nat) (ed : Int32) : ww_U := mo_dig (P + 1) g (ww_up (mo_cp g 0 (P + 1) (mo_new (mo_out u q) q P g ed)) 0 22 0)
def mo_pack (u : ww_U) (q P g : Nat) (ed z : Int32) : ww_U × Int32 := if mo_refuse (mo_z u) q ed z = 0 then (mo_pk (mo_z u) q P g ed, nI (P + 1)) else (mo_z u, mo_refuse (mo_z u) q ed z)
theorem mo_cp_ne {d k p a : Nat} {u : ww_U} (h : a ≠ 19) : mo_cp d k p u a = u a := by
  induction d generalizing k u with
  | zero => rfl
  | succ d ih => show mo_cp d (k + 1) p _ a = _; rw [ih, ww_up_ne h]
theorem mo_l3_ne {d k p len w b : Nat} {u : ww_U} (h6 : b ≠ 26) (h7 : b ≠ 27) (h8 : b ≠ 28) : mo_l3 d k p len w u b = u b := by
  induction d generalizing k u with
  | zero => rfl
  | succ d ih => show mo_l3 d (k + 1) p len w _ b = _; rw [ih, mo_blk_ne h6 h7 h8]
theorem mo_l2_ne {d k b : Nat} {u : ww_U} (h : b ≠ 26) : mo_l2 d k u b = u b := by
  induction d generalizing k u with
  | zero => rfl
  | succ d ih => show mo_l2 d (k + 1) _ b = _; rw [ih, ww_up_ne h]
theorem mo_dl_ne {d k b : Nat} {u : ww_U} (h : b ≠ 21) : mo_dl d k u b = u b := by
  induction d generalizing k u with
  | zero => rfl
  | succ d ih => show mo_dl d (k + 1) _ b = _; rw [ih, ww_up_ne h]
theorem mo_dig_ne {p len b : Nat} {u : ww_U} (h0 : b ≠ 0) (h1 : b ≠ 21) (h6 : b ≠ 26) (h7 : b ≠ 27) (h8 : b ≠ 28) : mo_dig p len u b = u b := by
  unfold mo_dig
  rw [ww_up_ne h0, mo_dl_ne h1, mo_l3_ne h6 h7 h8, mo_l2_ne h6]
theorem mo_dig_0 {p len j : Nat} {u : ww_U} (h : j ≠ 24) : mo_dig p len u 0 j = u 0 j := by
  unfold mo_dig
  rw [ww_up_nj h, mo_dl_ne (by decide), mo_l3_ne (by decide) (by decide) (by decide), mo_l2_ne (by decide)]
theorem mo_P60 {a : Int32} {P : Nat} (hP : P ≤ 60) (ha : a = nI P) (h : ¬ a = 60) : P < 60 := by
  rcases Nat.lt_or_ge P 60 with z | z
  · exact z
  · exact absurd (by rw [ha, show P = 60 by omega]; rfl) h
set_option maxRecDepth 20000 in
theorem kw_X5_package0_X5 : ww_K wsX5_package0 RX5 TX5 36 tyX5 := ⟨by decide +kernel, tyX5_ok, nmX5⟩
set_option maxHeartbeats 4000000 in
set_option maxRecDepth 100000 in
theorem lp_X5_package0 {p : Program} {l : Launch} {e : Env} {s : State} {m : MethodId} {args : Array Value} {below : List Frame} {meth : Method} {c : Code} {D : va_G} {ca : Nat → ClassId} {B : Nat → Nat} {N n : Nat} {X : va_W} (C : ww_C D ca yX5_package0.cls cX5_package0 5 wsX5_package0 (some .int) (ww_A B N X s.heap.size) p s m args meth c) (hNN : 29 ≤ N) {P g0 : Nat} (hP60 : P < 60) (hg : g0 ≤ 256) (cv ed z : Int32)  {r : Option Value} {u' : ww_U} : ∀ (d k : Nat) (y : Int32) (u : ww_U), k + d = g0 → (y = nI k) → (u 0 12 = nI (P + 1)) → (u 0 22 = nI g0) → (u 13 (P + 1) = nI g0) → r = some (.int (nI (P + 1))) → u' = mo_dig (P + 1) g0 (ww_up (mo_cp d k (P + 1) u) 0 22 0) → ∀ (H : Heap) (locs : List Loc) (ls : Array Slot), ww_N D ca B N n u X (ww_A B N X s.heap.size) s.heap H locs → lv_has ls 5 [(0, .ref (B 0)), (1, .int cv), (2, .int ed), (3, .int z), (4, .int y)] → W p l e (headSpec wsX5_package0 ({ frames := 2, cells := 0, slots := 0, locals := 55 } : Room)).room s m args below meth c H locs 0 0 (MQ below (ww_Q D ca B N n X s.heap.size r u') args s 0 0 (ww_A B N X s.heap.size)) (F0 m 194 ls []) := by
  have hx := C.1.1
  have hb := C.1.2.1
  intro d
  induction d with
  | zero =>
    intro k y u hkd hxk hpk hgv hle hr hu H locs ls hN hl
    refine lv_iload hx hb dX5_package0_194 (lv_at hl 4 rfl) ?_
    refine lv_aload_n hx hb dX5_package0_196 rfl (lv_at hl 0 rfl) ?_
    refine rr_get C hN 0 (Nat.lt_of_lt_of_le (by decide) hNN) rfl rfl kw_X5_package0_X5 22 (by decide) (List.mem_of_getElem? (i := 1) rfl) (v := .int (u 0 22)) rfl dX5_package0_197 ?_
    refine lv_icmp_ge (tgt := 232) hx hb dX5_package0_200 (by decide) (fun c_200 => ?_) (fun c_200 => absurd c_200 (fun h => h (by rw [hgv, hxk, show k = g0 by omega]; exact nI_le (Nat.le_refl _) (by omega))))
    refine lv_aload_n hx hb dX5_package0_232 rfl (lv_at hl 0 rfl) ?_
    refine lv_iconst (v := 0) hx hb dX5_package0_233 (by decide) ?_
    refine rr_put C hN 0 (Nat.lt_of_lt_of_le (by decide) hNN) rfl rfl kw_X5_package0_X5 22 (by decide) (List.mem_of_getElem? (i := 1) rfl) rfl (x := 0) rfl rfl (Nat.le_of_ble_eq_true rfl) ((Eq.refl _).trans rfl) dX5_package0_234 (fun uz1 euz1 H locs hN => ?_)
    refine lv_aload_n hx hb dX5_package0_237 rfl (lv_at hl 0 rfl) ?_
    refine lv_aload_n hx hb dX5_package0_238 rfl (lv_at hl 0 rfl) ?_
    refine rr_get C hN 0 (Nat.lt_of_lt_of_le (by decide) hNN) rfl rfl kw_X5_package0_X5 12 (by decide) (List.mem_of_getElem? (i := 2) rfl) (v := .int (uz1 0 12)) rfl dX5_package0_239 ?_
    refine rr_callV0 (As := [.int (uz1 0 12)]) C hN 0 (Nat.lt_of_lt_of_le (by decide) hNN) rfl rfl rfl (ct_X5_findDigest l (pp := P + 1) (len := g0) (by omega) (by rw [euz1, ww_up_nj (by decide)]; exact hpk) hg (by rw [euz1, ww_up_ne (by decide)]; exact hle) hNN) gX5_package0_X5_findDigest rfl rfl rfl 1 (by decide +kernel) ⟨Nat.le_of_ble_eq_true rfl, Nat.le_of_ble_eq_true rfl⟩ rfl hl.1 rfl (Nat.le_of_ble_eq_true rfl) ⟨Nat.zero_le _, Nat.zero_le _⟩ dX5_package0_242 (fun H locs hN => ?_)
    obtain ⟨uz2, euz2⟩ : ∃ y : ww_U, y = mo_dig (P + 1) g0 uz1 := ⟨_, rfl⟩
    rw [← euz2] at hN
    refine lv_aload_n hx hb dX5_package0_245 rfl (lv_at hl 0 rfl) ?_
    refine rr_get C hN 0 (Nat.lt_of_lt_of_le (by decide) hNN) rfl rfl kw_X5_package0_X5 12 (by decide) (List.mem_of_getElem? (i := 2) rfl) (v := .int (uz2 0 12)) rfl dX5_package0_246 ?_
    exact rr_iret C hN dX5_package0_249 (by rw [hr, euz2, mo_dig_0 (by decide), euz1, ww_up_nj (by decide), hpk]) (hu.trans (by rw [euz2, euz1]; simp only [mo_cp]))
  | succ d ih =>
    intro k y u hkd hxk hpk hgv hle hr hu H locs ls hN hl
    refine lv_iload hx hb dX5_package0_194 (lv_at hl 4 rfl) ?_
    refine lv_aload_n hx hb dX5_package0_196 rfl (lv_at hl 0 rfl) ?_
    refine rr_get C hN 0 (Nat.lt_of_lt_of_le (by decide) hNN) rfl rfl kw_X5_package0_X5 22 (by decide) (List.mem_of_getElem? (i := 1) rfl) (v := .int (u 0 22)) rfl dX5_package0_197 ?_
    refine lv_icmp_ge (tgt := 232) hx hb dX5_package0_200 (by decide) (fun c_200 => absurd c_200 (by rw [hgv, hxk]; exact nI_ge (by omega) (by omega))) (fun c_200 => ?_)
    refine lv_aload_n hx hb dX5_package0_203 rfl (lv_at hl 0 rfl) ?_
    refine rr_get C hN 0 (Nat.lt_of_lt_of_le (by decide) hNN) rfl rfl kw_X5_package0_X5 21 (by decide) (List.mem_of_getElem? (i := 12) rfl) (v := .ref (B 19)) rfl dX5_package0_204 ?_
    refine lv_sipush (v := 256) hx hb dX5_package0_207 (by decide) ?_
    refine lv_aload_n hx hb dX5_package0_210 rfl (lv_at hl 0 rfl) ?_
    refine rr_get C hN 0 (Nat.lt_of_lt_of_le (by decide) hNN) rfl rfl kw_X5_package0_X5 12 (by decide) (List.mem_of_getElem? (i := 2) rfl) (v := .int (u 0 12)) rfl dX5_package0_211 ?_
    refine lv_imul hx hb dX5_package0_214 ?_
    refine lv_topi (fun vs1 evs1 => ?_)
    refine lv_iload hx hb dX5_package0_215 (lv_at hl 4 rfl) ?_
    refine lv_iadd hx hb dX5_package0_217 ?_
    refine lv_topi (fun vs2 evs2 => ?_)
    refine lv_aload_n hx hb dX5_package0_218 rfl (lv_at hl 0 rfl) ?_
    refine rr_get C hN 0 (Nat.lt_of_lt_of_le (by decide) hNN) rfl rfl kw_X5_package0_X5 23 (by decide) (List.mem_of_getElem? (i := 3) rfl) (v := .ref (B 20)) rfl dX5_package0_219 ?_
    refine lv_iload hx hb dX5_package0_222 (lv_at hl 4 rfl) ?_
    refine rr_iald C hN 20 (Nat.lt_of_lt_of_le (by decide) hNN) rfl (by decide) k (by omega) hxk dX5_package0_224 ?_
    refine rr_iast C hN 19 (Nat.lt_of_lt_of_le (by decide) hNN) (fun _ => rfl) (by decide) (256 * (P + 1) + k) (by omega) (by rw [evs2, evs1, hpk, hxk]; exact (congrArg (fun z : Int32 => z + nI k) (pk_mul 256 (P + 1))).trans (nI_add _ _)) dX5_package0_225 (fun us3 eus3 H locs hN => ?_)
    obtain ⟨vs4, evs4⟩ : ∃ y9 : Int32, y9 = y + 1 := ⟨_, rfl⟩
    refine lv_iinc (v := vs4) (lv' := [(4, .int vs4), (0, .ref (B 0)), (1, .int cv), (2, .int ed), (3, .int z)]) hx hb dX5_package0_226 hl (k := 4) rfl (by rw [evs4]; rfl) (by decide) rfl (fun ls hl => ?_)
    refine lv_goto (tgt := 194) hx hb dX5_package0_229 (by decide) ?_
    exact ih (k + 1) vs4 us3 (by omega) (by rw [evs4, hxk]; exact nI_1 k) (by rw [eus3, ww_up_ne (by decide)]; exact hpk) (by rw [eus3, ww_up_ne (by decide)]; exact hgv) (by rw [eus3, ww_up_ne (by decide)]; exact hle) hr (hu.trans (by rw [eus3]; simp only [mo_cp])) H locs ls hN (lv_sub hl [1, 2, 3, 4, 0] rfl)
set_option maxHeartbeats 4000000 in
set_option maxRecDepth 100000 in
theorem ct_X5_package00 (l : Launch) {D : va_G} {ca : Nat → ClassId} {B : Nat → Nat} {N n : Nat} {X : va_W} {u : ww_U} {x : Int32} (h : x < 1 ∨ u 0 1 < x) (ed z : Int32) (hNN : 29 ≤ N)  : ww_M l yX5_package0 wsX5_package0 ({ frames := 2, cells := 0, slots := 0, locals := 55 } : Room) D ca B N n X u [.ref (B 0), .int x, .int ed, .int z] (some (.int (-1))) (mo_z u) := by
  refine ww_met (cc := cX5_package0) (maxL := 5) (ret := (some .int)) (by decide) rfl (Nat.le_of_ble_eq_true rfl) ?_
  intro p e s m args below meth c C hN ls hl
  have hl : lv_has ls 5 [(0, .ref (B 0)), (1, .int x), (2, .int ed), (3, .int z)] := hl
  have hx := C.1.1
  have hb := C.1.2.1
  refine lv_aload_n hx hb dX5_package0_0 rfl (lv_at hl 0 rfl) ?_
  refine lv_iload_n hx hb dX5_package0_1 rfl (lv_at hl 1 rfl) ?_
  refine rr_callV (As := [.int x]) C hN 0 (Nat.lt_of_lt_of_le (by decide) hNN) rfl rfl rfl (ct_X5_none l x hNN) gX5_package0_X5_none rfl rfl rfl 1 (by decide +kernel) ⟨Nat.le_of_ble_eq_true rfl, Nat.le_of_ble_eq_true rfl⟩ rfl hl.1 rfl (Nat.le_of_ble_eq_true rfl) ⟨Nat.zero_le _, Nat.zero_le _⟩ dX5_package0_2 (fun H locs hN => ?_)
  refine lv_topi (fun v1 ev1 => ?_)
  refine lv_if_eq (tgt := 10) hx hb dX5_package0_5 (by decide) (fun c_5 => absurd c_5 (by rw [ev1, mo_none_1 h]; decide)) (fun c_5 => ?_)
  refine lv_iconst (v := (-1)) hx hb dX5_package0_8 (by decide) ?_
  exact rr_iret C hN dX5_package0_9 rfl rfl
set_option maxHeartbeats 4000000 in
set_option maxRecDepth 100000 in
theorem ct_X5_package0 (l : Launch) {D : va_G} {ca : Nat → ClassId} {B : Nat → Nat} {N n : Nat} {X : va_W} {u : ww_U} {x : Int32} {q : Nat} (hq1 : 1 ≤ q) (hq8 : q ≤ 8) (hxq : x = nI q) (hxc : x ≤ u 0 1) {P : Nat} (hP60 : P ≤ 60) (hpk : u 0 12 = nI P) (hop : okn (u 4 q) 60) {g0 : Nat} (hg : g0 ≤ 256) (hgv : u 0 22 = nI g0) (ed z : Int32) (hNN : 29 ≤ N)  : ww_M l yX5_package0 wsX5_package0 ({ frames := 2, cells := 0, slots := 0, locals := 55 } : Room) D ca B N n X u [.ref (B 0), .int x, .int ed, .int z] (some (.int (mo_pack u q P g0 ed z).2)) (mo_pack u q P g0 ed z).1 := by
  refine ww_met (cc := cX5_package0) (maxL := 5) (ret := (some .int)) (by decide) rfl (Nat.le_of_ble_eq_true rfl) ?_
  intro p e s m args below meth c C hN ls hl
  have hl : lv_has ls 5 [(0, .ref (B 0)), (1, .int x), (2, .int ed), (3, .int z)] := hl
  have hx := C.1.1
  have hb := C.1.2.1
  have hx1 : ¬ x < 1 := by rw [hxq]; exact (show ¬ nI q < nI 1 from nI_nlt (by omega) (by omega))
  refine lv_aload_n hx hb dX5_package0_0 rfl (lv_at hl 0 rfl) ?_
  refine lv_iload_n hx hb dX5_package0_1 rfl (lv_at hl 1 rfl) ?_
  refine rr_callV (As := [.int x]) C hN 0 (Nat.lt_of_lt_of_le (by decide) hNN) rfl rfl rfl (ct_X5_none l x hNN) gX5_package0_X5_none rfl rfl rfl 1 (by decide +kernel) ⟨Nat.le_of_ble_eq_true rfl, Nat.le_of_ble_eq_true rfl⟩ rfl hl.1 rfl (Nat.le_of_ble_eq_true rfl) ⟨Nat.zero_le _, Nat.zero_le _⟩ dX5_package0_2 (fun H locs hN => ?_)
  refine lv_topi (fun v1 ev1 => ?_)
  refine lv_if_eq (tgt := 10) hx hb dX5_package0_5 (by decide) (fun c_5 => ?_) (fun c_5 => absurd c_5 (fun h => h (by rw [ev1]; exact mo_none_0 hx1 hxc)))
  refine lv_iload_n hx hb dX5_package0_10 rfl (lv_at hl 2 rfl) ?_
  refine lv_iconst (v := 1) hx hb dX5_package0_11 (by decide) ?_
  refine lv_icmp_lt (tgt := 29) hx hb dX5_package0_12 (by decide) (fun c_12 => ?_) (fun c_12 => ?_)
  · refine lv_bipush (v := (-2)) hx hb dX5_package0_29 (by decide) ?_
    have hF : mo_refuse (mo_z u) q ed z = (-2) := by unfold mo_refuse; rw [if_pos c_12]
    exact rr_iret C hN dX5_package0_31 (by unfold mo_pack; rw [if_neg (by rw [hF]; decide), hF]) (by unfold mo_pack; rw [if_neg (by rw [hF]; decide)])
  · refine lv_iload_n hx hb dX5_package0_15 rfl (lv_at hl 2 rfl) ?_
    refine lv_sipush (v := 1000) hx hb dX5_package0_16 (by decide) ?_
    refine lv_icmp_gt (tgt := 29) hx hb dX5_package0_19 (by decide) (fun c_19 => ?_) (fun c_19 => ?_)
    · refine lv_bipush (v := (-2)) hx hb dX5_package0_29 (by decide) ?_
      have hF : mo_refuse (mo_z u) q ed z = (-2) := by unfold mo_refuse; rw [if_neg c_12, if_pos c_19]
      exact rr_iret C hN dX5_package0_31 (by unfold mo_pack; rw [if_neg (by rw [hF]; decide), hF]) (by unfold mo_pack; rw [if_neg (by rw [hF]; decide)])
    · refine lv_aload_n hx hb dX5_package0_22 rfl (lv_at hl 0 rfl) ?_
      refine rr_get C hN 0 (Nat.lt_of_lt_of_le (by decide) hNN) rfl rfl kw_X5_package0_X5 22 (by decide) (List.mem_of_getElem? (i := 1) rfl) (v := .int ((mo_z u) 0 22)) rfl dX5_package0_23 ?_
      refine lv_if_ne (tgt := 32) hx hb dX5_package0_26 (by decide) (fun c_26 => ?_) (fun c_26 => ?_)
      · refine lv_aload_n hx hb dX5_package0_32 rfl (lv_at hl 0 rfl) ?_
        refine lv_iload_n hx hb dX5_package0_33 rfl (lv_at hl 1 rfl) ?_
        refine rr_callV (As := [.int x]) C hN 0 (Nat.lt_of_lt_of_le (by decide) hNN) rfl rfl rfl (ct_X5_stateOf l hq8 hxq hNN hop) gX5_package0_X5_stateOf rfl rfl rfl 1 (by decide +kernel) ⟨Nat.le_of_ble_eq_true rfl, Nat.le_of_ble_eq_true rfl⟩ rfl hl.1 rfl (Nat.le_of_ble_eq_true rfl) ⟨Nat.zero_le _, Nat.zero_le _⟩ dX5_package0_34 (fun H locs hN => ?_)
        refine lv_topi (fun v2 ev2 => ?_)
        refine lv_iconst (v := 2) hx hb dX5_package0_37 (by decide) ?_
        refine lv_icmp_lt (tgt := 44) hx hb dX5_package0_38 (by decide) (fun c_38 => ?_) (fun c_38 => ?_)
        · refine lv_aload_n hx hb dX5_package0_44 rfl (lv_at hl 0 rfl) ?_
          refine rr_get C hN 0 (Nat.lt_of_lt_of_le (by decide) hNN) rfl rfl kw_X5_package0_X5 12 (by decide) (List.mem_of_getElem? (i := 2) rfl) (v := .int ((mo_z u) 0 12)) rfl dX5_package0_45 ?_
          refine lv_bipush (v := 60) hx hb dX5_package0_48 (by decide) ?_
          refine lv_icmp_ne (tgt := 56) hx hb dX5_package0_50 (by decide) (fun c_50 => ?_) (fun c_50 => ?_)
          · refine lv_iload_n hx hb dX5_package0_56 rfl (lv_at hl 3 rfl) ?_
            refine lv_if_ne (tgt := 63) hx hb dX5_package0_57 (by decide) (fun c_57 => ?_) (fun c_57 => ?_)
            · refine lv_aload_n hx hb dX5_package0_63 rfl (lv_at hl 0 rfl) ?_
              refine rr_get C hN 0 (Nat.lt_of_lt_of_le (by decide) hNN) rfl rfl kw_X5_package0_X5 23 (by decide) (List.mem_of_getElem? (i := 3) rfl) (v := .ref (B 20)) rfl dX5_package0_64 ?_
              refine lv_iconst (v := 0) hx hb dX5_package0_67 (by decide) ?_
              refine rr_iald C hN 20 (Nat.lt_of_lt_of_le (by decide) hNN) rfl (by decide) 0 (by decide) rfl dX5_package0_68 ?_
              refine lv_aload_n hx hb dX5_package0_69 rfl (lv_at hl 0 rfl) ?_
              refine rr_get C hN 0 (Nat.lt_of_lt_of_le (by decide) hNN) rfl rfl kw_X5_package0_X5 2 (by decide) (List.mem_of_getElem? (i := 4) rfl) (v := .ref (B 1)) rfl dX5_package0_70 ?_
              refine lv_iload_n hx hb dX5_package0_73 rfl (lv_at hl 1 rfl) ?_
              refine rr_iald C hN 1 (Nat.lt_of_lt_of_le (by decide) hNN) rfl (by decide) q (by omega) hxq dX5_package0_74 ?_
              refine lv_icmp_eq (tgt := 81) hx hb dX5_package0_75 (by decide) (fun c_75 => ?_) (fun c_75 => ?_)
              · refine lv_iload_n hx hb dX5_package0_81 rfl (lv_at hl 2 rfl) ?_
                refine lv_aload_n hx hb dX5_package0_82 rfl (lv_at hl 0 rfl) ?_
                refine rr_get C hN 0 (Nat.lt_of_lt_of_le (by decide) hNN) rfl rfl kw_X5_package0_X5 4 (by decide) (List.mem_of_getElem? (i := 5) rfl) (v := .ref (B 3)) rfl dX5_package0_83 ?_
                refine lv_iload_n hx hb dX5_package0_86 rfl (lv_at hl 1 rfl) ?_
                refine rr_iald C hN 3 (Nat.lt_of_lt_of_le (by decide) hNN) rfl (by decide) q (by omega) hxq dX5_package0_87 ?_
                refine lv_icmp_gt (tgt := 94) hx hb dX5_package0_88 (by decide) (fun c_88 => ?_) (fun c_88 => ?_)
                · have hF : mo_refuse (mo_z u) q ed z = 0 := by unfold mo_refuse; rw [if_neg c_12, if_neg c_19, if_neg c_26, if_pos (by rw [← ev2]; exact c_38), if_neg c_50, if_neg c_57, if_pos c_75, if_pos c_88]
                  have hP60l : P < 60 := mo_P60 hP60 hpk c_50
                  refine lv_aload_n hx hb dX5_package0_94 rfl (lv_at hl 0 rfl) ?_
                  refine rr_get C hN 0 (Nat.lt_of_lt_of_le (by decide) hNN) rfl rfl kw_X5_package0_X5 5 (by decide) (List.mem_of_getElem? (i := 6) rfl) (v := .ref (B 4)) rfl dX5_package0_95 ?_
                  refine lv_iload_n hx hb dX5_package0_98 rfl (lv_at hl 1 rfl) ?_
                  refine rr_iald C hN 4 (Nat.lt_of_lt_of_le (by decide) hNN) rfl (by decide) q (by omega) hxq dX5_package0_99 ?_
                  refine lv_if_le (tgt := 115) hx hb dX5_package0_100 (by decide) (fun c_100 => ?_) (fun c_100 => ?_)
                  · have hO : mo_out (mo_z u) q = mo_z u := by unfold mo_out; rw [if_pos c_100]
                    have hpk0 : mo_z u 0 12 = nI P := hpk
                    have hgv0 : mo_z u 0 22 = nI g0 := hgv
                    refine lv_aload_n hx hb dX5_package0_115 rfl (lv_at hl 0 rfl) ?_
                    refine lv_dup hx hb dX5_package0_116 rfl ?_
                    refine rr_get C hN 0 (Nat.lt_of_lt_of_le (by decide) hNN) rfl rfl kw_X5_package0_X5 12 (by decide) (List.mem_of_getElem? (i := 2) rfl) (v := .int ((mo_z u) 0 12)) rfl dX5_package0_117 ?_
                    refine lv_iconst (v := 1) hx hb dX5_package0_120 (by decide) ?_
                    refine lv_iadd hx hb dX5_package0_121 ?_
                    refine lv_topi (fun v3 ev3 => ?_)
                    refine rr_put C hN 0 (Nat.lt_of_lt_of_le (by decide) hNN) rfl rfl kw_X5_package0_X5 12 (by decide) (List.mem_of_getElem? (i := 2) rfl) rfl (x := v3) rfl rfl (Nat.le_of_ble_eq_true rfl) ((Eq.refl _).trans rfl) dX5_package0_122 (fun u4 eu4 H locs hN => ?_)
                    have hq_0 : u4 0 12 = nI (P + 1) := by rw [eu4, ww_up_self, ev3, hpk0, nI_1]
                    have hg_0 : u4 0 22 = nI g0 := by rw [eu4, ww_up_nj (by decide)]; exact hgv0
                    refine lv_aload_n hx hb dX5_package0_125 rfl (lv_at hl 0 rfl) ?_
                    refine rr_get C hN 0 (Nat.lt_of_lt_of_le (by decide) hNN) rfl rfl kw_X5_package0_X5 5 (by decide) (List.mem_of_getElem? (i := 6) rfl) (v := .ref (B 4)) rfl dX5_package0_126 ?_
                    refine lv_iload_n hx hb dX5_package0_129 rfl (lv_at hl 1 rfl) ?_
                    refine lv_aload_n hx hb dX5_package0_130 rfl (lv_at hl 0 rfl) ?_
                    refine rr_get C hN 0 (Nat.lt_of_lt_of_le (by decide) hNN) rfl rfl kw_X5_package0_X5 12 (by decide) (List.mem_of_getElem? (i := 2) rfl) (v := .int (u4 0 12)) rfl dX5_package0_131 ?_
                    refine rr_iast C hN 4 (Nat.lt_of_lt_of_le (by decide) hNN) (fun _ => rfl) (by decide) q (by omega) hxq dX5_package0_134 (fun u5 eu5 H locs hN => ?_)
                    have hq_1 : u5 0 12 = nI (P + 1) := by rw [eu5, ww_up_ne (by decide)]; exact hq_0
                    have hg_1 : u5 0 22 = nI g0 := by rw [eu5, ww_up_ne (by decide)]; exact hg_0
                    refine lv_aload_n hx hb dX5_package0_135 rfl (lv_at hl 0 rfl) ?_
                    refine rr_get C hN 0 (Nat.lt_of_lt_of_le (by decide) hNN) rfl rfl kw_X5_package0_X5 13 (by decide) (List.mem_of_getElem? (i := 8) rfl) (v := .ref (B 11)) rfl dX5_package0_136 ?_
                    refine lv_aload_n hx hb dX5_package0_139 rfl (lv_at hl 0 rfl) ?_
                    refine rr_get C hN 0 (Nat.lt_of_lt_of_le (by decide) hNN) rfl rfl kw_X5_package0_X5 12 (by decide) (List.mem_of_getElem? (i := 2) rfl) (v := .int (u5 0 12)) rfl dX5_package0_140 ?_
                    refine lv_iload_n hx hb dX5_package0_143 rfl (lv_at hl 1 rfl) ?_
                    refine rr_iast C hN 11 (Nat.lt_of_lt_of_le (by decide) hNN) (fun _ => rfl) (by decide) (P + 1) (by omega) hq_1 dX5_package0_144 (fun u6 eu6 H locs hN => ?_)
                    have hq_2 : u6 0 12 = nI (P + 1) := by rw [eu6, ww_up_ne (by decide)]; exact hq_1
                    have hg_2 : u6 0 22 = nI g0 := by rw [eu6, ww_up_ne (by decide)]; exact hg_1
                    refine lv_aload_n hx hb dX5_package0_145 rfl (lv_at hl 0 rfl) ?_
                    refine rr_get C hN 0 (Nat.lt_of_lt_of_le (by decide) hNN) rfl rfl kw_X5_package0_X5 14 (by decide) (List.mem_of_getElem? (i := 9) rfl) (v := .ref (B 12)) rfl dX5_package0_146 ?_
                    refine lv_aload_n hx hb dX5_package0_149 rfl (lv_at hl 0 rfl) ?_
                    refine rr_get C hN 0 (Nat.lt_of_lt_of_le (by decide) hNN) rfl rfl kw_X5_package0_X5 12 (by decide) (List.mem_of_getElem? (i := 2) rfl) (v := .int (u6 0 12)) rfl dX5_package0_150 ?_
                    refine lv_iload_n hx hb dX5_package0_153 rfl (lv_at hl 2 rfl) ?_
                    refine rr_iast C hN 12 (Nat.lt_of_lt_of_le (by decide) hNN) (fun _ => rfl) (by decide) (P + 1) (by omega) hq_2 dX5_package0_154 (fun u7 eu7 H locs hN => ?_)
                    have hq_3 : u7 0 12 = nI (P + 1) := by rw [eu7, ww_up_ne (by decide)]; exact hq_2
                    have hg_3 : u7 0 22 = nI g0 := by rw [eu7, ww_up_ne (by decide)]; exact hg_2
                    refine lv_aload_n hx hb dX5_package0_155 rfl (lv_at hl 0 rfl) ?_
                    refine rr_get C hN 0 (Nat.lt_of_lt_of_le (by decide) hNN) rfl rfl kw_X5_package0_X5 15 (by decide) (List.mem_of_getElem? (i := 10) rfl) (v := .ref (B 13)) rfl dX5_package0_156 ?_
                    refine lv_aload_n hx hb dX5_package0_159 rfl (lv_at hl 0 rfl) ?_
                    refine rr_get C hN 0 (Nat.lt_of_lt_of_le (by decide) hNN) rfl rfl kw_X5_package0_X5 12 (by decide) (List.mem_of_getElem? (i := 2) rfl) (v := .int (u7 0 12)) rfl dX5_package0_160 ?_
                    refine lv_aload_n hx hb dX5_package0_163 rfl (lv_at hl 0 rfl) ?_
                    refine rr_get C hN 0 (Nat.lt_of_lt_of_le (by decide) hNN) rfl rfl kw_X5_package0_X5 22 (by decide) (List.mem_of_getElem? (i := 1) rfl) (v := .int (u7 0 22)) rfl dX5_package0_164 ?_
                    refine rr_iast C hN 13 (Nat.lt_of_lt_of_le (by decide) hNN) (fun _ => rfl) (by decide) (P + 1) (by omega) hq_3 dX5_package0_167 (fun u8 eu8 H locs hN => ?_)
                    have hq_4 : u8 0 12 = nI (P + 1) := by rw [eu8, ww_up_ne (by decide)]; exact hq_3
                    have hg_4 : u8 0 22 = nI g0 := by rw [eu8, ww_up_ne (by decide)]; exact hg_3
                    refine lv_aload_n hx hb dX5_package0_168 rfl (lv_at hl 0 rfl) ?_
                    refine rr_get C hN 0 (Nat.lt_of_lt_of_le (by decide) hNN) rfl rfl kw_X5_package0_X5 16 (by decide) (List.mem_of_getElem? (i := 11) rfl) (v := .ref (B 14)) rfl dX5_package0_169 ?_
                    refine lv_aload_n hx hb dX5_package0_172 rfl (lv_at hl 0 rfl) ?_
                    refine rr_get C hN 0 (Nat.lt_of_lt_of_le (by decide) hNN) rfl rfl kw_X5_package0_X5 12 (by decide) (List.mem_of_getElem? (i := 2) rfl) (v := .int (u8 0 12)) rfl dX5_package0_173 ?_
                    refine lv_iconst (v := 1) hx hb dX5_package0_176 (by decide) ?_
                    refine rr_iast C hN 14 (Nat.lt_of_lt_of_le (by decide) hNN) (fun _ => rfl) (by decide) (P + 1) (by omega) hq_4 dX5_package0_177 (fun u9 eu9 H locs hN => ?_)
                    have hq_5 : u9 0 12 = nI (P + 1) := by rw [eu9, ww_up_ne (by decide)]; exact hq_4
                    have hg_5 : u9 0 22 = nI g0 := by rw [eu9, ww_up_ne (by decide)]; exact hg_4
                    refine lv_aload_n hx hb dX5_package0_178 rfl (lv_at hl 0 rfl) ?_
                    refine rr_get C hN 0 (Nat.lt_of_lt_of_le (by decide) hNN) rfl rfl kw_X5_package0_X5 19 (by decide) (List.mem_of_getElem? (i := 7) rfl) (v := .ref (B 17)) rfl dX5_package0_179 ?_
                    refine lv_aload_n hx hb dX5_package0_182 rfl (lv_at hl 0 rfl) ?_
                    refine rr_get C hN 0 (Nat.lt_of_lt_of_le (by decide) hNN) rfl rfl kw_X5_package0_X5 12 (by decide) (List.mem_of_getElem? (i := 2) rfl) (v := .int (u9 0 12)) rfl dX5_package0_183 ?_
                    refine lv_aload_n hx hb dX5_package0_186 rfl (lv_at hl 0 rfl) ?_
                    refine rr_get C hN 0 (Nat.lt_of_lt_of_le (by decide) hNN) rfl rfl kw_X5_package0_X5 12 (by decide) (List.mem_of_getElem? (i := 2) rfl) (v := .int (u9 0 12)) rfl dX5_package0_187 ?_
                    refine rr_iast C hN 17 (Nat.lt_of_lt_of_le (by decide) hNN) (fun _ => rfl) (by decide) (P + 1) (by omega) hq_5 dX5_package0_190 (fun u10 eu10 H locs hN => ?_)
                    have hq_6 : u10 0 12 = nI (P + 1) := by rw [eu10, ww_up_ne (by decide)]; exact hq_5
                    have hg_6 : u10 0 22 = nI g0 := by rw [eu10, ww_up_ne (by decide)]; exact hg_5
                    refine lv_iconst (v := 0) hx hb dX5_package0_191 (by decide) ?_
                    refine lv_istore (lv' := [(4, .int 0), (0, .ref (B 0)), (1, .int x), (2, .int ed), (3, .int z)]) hx hb dX5_package0_192 hl (by decide) rfl (fun ls hl => ?_)
                    have hNEW : u10 = mo_new (mo_out (mo_z u) q) q P g0 ed := by rw [eu10, hq_5, eu9, eu8, hg_3, eu7, eu6, eu5, hq_0, eu4, ev3, hpk0, nI_1, hxq, hO]; rfl
                    have hpl : u10 13 (P + 1) = nI g0 := by rw [hNEW]; unfold mo_new; rw [ww_up_ne (by decide), ww_up_ne (by decide), ww_up_self]
                    exact lp_X5_package0 C hNN hP60l hg x ed z g0 0 0 u10 (by omega) rfl hq_6 hg_6 hpl (by unfold mo_pack; rw [if_pos hF]) (by unfold mo_pack; rw [if_pos hF, hNEW]; rfl) _ _ _ hN (lv_sub hl [1, 2, 3, 4, 0] rfl)
                  · refine lv_aload_n hx hb dX5_package0_103 rfl (lv_at hl 0 rfl) ?_
                    refine rr_get C hN 0 (Nat.lt_of_lt_of_le (by decide) hNN) rfl rfl kw_X5_package0_X5 19 (by decide) (List.mem_of_getElem? (i := 7) rfl) (v := .ref (B 17)) rfl dX5_package0_104 ?_
                    refine lv_aload_n hx hb dX5_package0_107 rfl (lv_at hl 0 rfl) ?_
                    refine rr_get C hN 0 (Nat.lt_of_lt_of_le (by decide) hNN) rfl rfl kw_X5_package0_X5 5 (by decide) (List.mem_of_getElem? (i := 6) rfl) (v := .ref (B 4)) rfl dX5_package0_108 ?_
                    refine lv_iload_n hx hb dX5_package0_111 rfl (lv_at hl 1 rfl) ?_
                    refine rr_iald C hN 4 (Nat.lt_of_lt_of_le (by decide) hNN) rfl (by decide) q (by omega) hxq dX5_package0_112 ?_
                    refine lv_iconst (v := 0) hx hb dX5_package0_113 (by decide) ?_
                    refine rr_iast C hN 17 (Nat.lt_of_lt_of_le (by decide) hNN) (fun _ => rfl) (by decide) (mo_rd (mo_z u) 4 q) (Nat.lt_succ_of_le hop.2) hop.1 dX5_package0_114 (fun u11 eu11 H locs hN => ?_)
                    have hO : mo_out (mo_z u) q = u11 := by unfold mo_out; rw [if_neg c_100, eu11]
                    have hpk0 : u11 0 12 = nI P := by rw [eu11, ww_up_ne (by decide)]; exact hpk
                    have hgv0 : u11 0 22 = nI g0 := by rw [eu11, ww_up_ne (by decide)]; exact hgv
                    refine lv_aload_n hx hb dX5_package0_115 rfl (lv_at hl 0 rfl) ?_
                    refine lv_dup hx hb dX5_package0_116 rfl ?_
                    refine rr_get C hN 0 (Nat.lt_of_lt_of_le (by decide) hNN) rfl rfl kw_X5_package0_X5 12 (by decide) (List.mem_of_getElem? (i := 2) rfl) (v := .int (u11 0 12)) rfl dX5_package0_117 ?_
                    refine lv_iconst (v := 1) hx hb dX5_package0_120 (by decide) ?_
                    refine lv_iadd hx hb dX5_package0_121 ?_
                    refine lv_topi (fun v12 ev12 => ?_)
                    refine rr_put C hN 0 (Nat.lt_of_lt_of_le (by decide) hNN) rfl rfl kw_X5_package0_X5 12 (by decide) (List.mem_of_getElem? (i := 2) rfl) rfl (x := v12) rfl rfl (Nat.le_of_ble_eq_true rfl) ((Eq.refl _).trans rfl) dX5_package0_122 (fun u13 eu13 H locs hN => ?_)
                    have hq_0 : u13 0 12 = nI (P + 1) := by rw [eu13, ww_up_self, ev12, hpk0, nI_1]
                    have hg_0 : u13 0 22 = nI g0 := by rw [eu13, ww_up_nj (by decide)]; exact hgv0
                    refine lv_aload_n hx hb dX5_package0_125 rfl (lv_at hl 0 rfl) ?_
                    refine rr_get C hN 0 (Nat.lt_of_lt_of_le (by decide) hNN) rfl rfl kw_X5_package0_X5 5 (by decide) (List.mem_of_getElem? (i := 6) rfl) (v := .ref (B 4)) rfl dX5_package0_126 ?_
                    refine lv_iload_n hx hb dX5_package0_129 rfl (lv_at hl 1 rfl) ?_
                    refine lv_aload_n hx hb dX5_package0_130 rfl (lv_at hl 0 rfl) ?_
                    refine rr_get C hN 0 (Nat.lt_of_lt_of_le (by decide) hNN) rfl rfl kw_X5_package0_X5 12 (by decide) (List.mem_of_getElem? (i := 2) rfl) (v := .int (u13 0 12)) rfl dX5_package0_131 ?_
                    refine rr_iast C hN 4 (Nat.lt_of_lt_of_le (by decide) hNN) (fun _ => rfl) (by decide) q (by omega) hxq dX5_package0_134 (fun u14 eu14 H locs hN => ?_)
                    have hq_1 : u14 0 12 = nI (P + 1) := by rw [eu14, ww_up_ne (by decide)]; exact hq_0
                    have hg_1 : u14 0 22 = nI g0 := by rw [eu14, ww_up_ne (by decide)]; exact hg_0
                    refine lv_aload_n hx hb dX5_package0_135 rfl (lv_at hl 0 rfl) ?_
                    refine rr_get C hN 0 (Nat.lt_of_lt_of_le (by decide) hNN) rfl rfl kw_X5_package0_X5 13 (by decide) (List.mem_of_getElem? (i := 8) rfl) (v := .ref (B 11)) rfl dX5_package0_136 ?_
                    refine lv_aload_n hx hb dX5_package0_139 rfl (lv_at hl 0 rfl) ?_
                    refine rr_get C hN 0 (Nat.lt_of_lt_of_le (by decide) hNN) rfl rfl kw_X5_package0_X5 12 (by decide) (List.mem_of_getElem? (i := 2) rfl) (v := .int (u14 0 12)) rfl dX5_package0_140 ?_
                    refine lv_iload_n hx hb dX5_package0_143 rfl (lv_at hl 1 rfl) ?_
                    refine rr_iast C hN 11 (Nat.lt_of_lt_of_le (by decide) hNN) (fun _ => rfl) (by decide) (P + 1) (by omega) hq_1 dX5_package0_144 (fun u15 eu15 H locs hN => ?_)
                    have hq_2 : u15 0 12 = nI (P + 1) := by rw [eu15, ww_up_ne (by decide)]; exact hq_1
                    have hg_2 : u15 0 22 = nI g0 := by rw [eu15, ww_up_ne (by decide)]; exact hg_1
                    refine lv_aload_n hx hb dX5_package0_145 rfl (lv_at hl 0 rfl) ?_
                    refine rr_get C hN 0 (Nat.lt_of_lt_of_le (by decide) hNN) rfl rfl kw_X5_package0_X5 14 (by decide) (List.mem_of_getElem? (i := 9) rfl) (v := .ref (B 12)) rfl dX5_package0_146 ?_
                    refine lv_aload_n hx hb dX5_package0_149 rfl (lv_at hl 0 rfl) ?_
                    refine rr_get C hN 0 (Nat.lt_of_lt_of_le (by decide) hNN) rfl rfl kw_X5_package0_X5 12 (by decide) (List.mem_of_getElem? (i := 2) rfl) (v := .int (u15 0 12)) rfl dX5_package0_150 ?_
                    refine lv_iload_n hx hb dX5_package0_153 rfl (lv_at hl 2 rfl) ?_
                    refine rr_iast C hN 12 (Nat.lt_of_lt_of_le (by decide) hNN) (fun _ => rfl) (by decide) (P + 1) (by omega) hq_2 dX5_package0_154 (fun u16 eu16 H locs hN => ?_)
                    have hq_3 : u16 0 12 = nI (P + 1) := by rw [eu16, ww_up_ne (by decide)]; exact hq_2
                    have hg_3 : u16 0 22 = nI g0 := by rw [eu16, ww_up_ne (by decide)]; exact hg_2
                    refine lv_aload_n hx hb dX5_package0_155 rfl (lv_at hl 0 rfl) ?_
                    refine rr_get C hN 0 (Nat.lt_of_lt_of_le (by decide) hNN) rfl rfl kw_X5_package0_X5 15 (by decide) (List.mem_of_getElem? (i := 10) rfl) (v := .ref (B 13)) rfl dX5_package0_156 ?_
                    refine lv_aload_n hx hb dX5_package0_159 rfl (lv_at hl 0 rfl) ?_
                    refine rr_get C hN 0 (Nat.lt_of_lt_of_le (by decide) hNN) rfl rfl kw_X5_package0_X5 12 (by decide) (List.mem_of_getElem? (i := 2) rfl) (v := .int (u16 0 12)) rfl dX5_package0_160 ?_
                    refine lv_aload_n hx hb dX5_package0_163 rfl (lv_at hl 0 rfl) ?_
                    refine rr_get C hN 0 (Nat.lt_of_lt_of_le (by decide) hNN) rfl rfl kw_X5_package0_X5 22 (by decide) (List.mem_of_getElem? (i := 1) rfl) (v := .int (u16 0 22)) rfl dX5_package0_164 ?_
                    refine rr_iast C hN 13 (Nat.lt_of_lt_of_le (by decide) hNN) (fun _ => rfl) (by decide) (P + 1) (by omega) hq_3 dX5_package0_167 (fun u17 eu17 H locs hN => ?_)
                    have hq_4 : u17 0 12 = nI (P + 1) := by rw [eu17, ww_up_ne (by decide)]; exact hq_3
                    have hg_4 : u17 0 22 = nI g0 := by rw [eu17, ww_up_ne (by decide)]; exact hg_3
                    refine lv_aload_n hx hb dX5_package0_168 rfl (lv_at hl 0 rfl) ?_
                    refine rr_get C hN 0 (Nat.lt_of_lt_of_le (by decide) hNN) rfl rfl kw_X5_package0_X5 16 (by decide) (List.mem_of_getElem? (i := 11) rfl) (v := .ref (B 14)) rfl dX5_package0_169 ?_
                    refine lv_aload_n hx hb dX5_package0_172 rfl (lv_at hl 0 rfl) ?_
                    refine rr_get C hN 0 (Nat.lt_of_lt_of_le (by decide) hNN) rfl rfl kw_X5_package0_X5 12 (by decide) (List.mem_of_getElem? (i := 2) rfl) (v := .int (u17 0 12)) rfl dX5_package0_173 ?_
                    refine lv_iconst (v := 1) hx hb dX5_package0_176 (by decide) ?_
                    refine rr_iast C hN 14 (Nat.lt_of_lt_of_le (by decide) hNN) (fun _ => rfl) (by decide) (P + 1) (by omega) hq_4 dX5_package0_177 (fun u18 eu18 H locs hN => ?_)
                    have hq_5 : u18 0 12 = nI (P + 1) := by rw [eu18, ww_up_ne (by decide)]; exact hq_4
                    have hg_5 : u18 0 22 = nI g0 := by rw [eu18, ww_up_ne (by decide)]; exact hg_4
                    refine lv_aload_n hx hb dX5_package0_178 rfl (lv_at hl 0 rfl) ?_
                    refine rr_get C hN 0 (Nat.lt_of_lt_of_le (by decide) hNN) rfl rfl kw_X5_package0_X5 19 (by decide) (List.mem_of_getElem? (i := 7) rfl) (v := .ref (B 17)) rfl dX5_package0_179 ?_
                    refine lv_aload_n hx hb dX5_package0_182 rfl (lv_at hl 0 rfl) ?_
                    refine rr_get C hN 0 (Nat.lt_of_lt_of_le (by decide) hNN) rfl rfl kw_X5_package0_X5 12 (by decide) (List.mem_of_getElem? (i := 2) rfl) (v := .int (u18 0 12)) rfl dX5_package0_183 ?_
                    refine lv_aload_n hx hb dX5_package0_186 rfl (lv_at hl 0 rfl) ?_
                    refine rr_get C hN 0 (Nat.lt_of_lt_of_le (by decide) hNN) rfl rfl kw_X5_package0_X5 12 (by decide) (List.mem_of_getElem? (i := 2) rfl) (v := .int (u18 0 12)) rfl dX5_package0_187 ?_
                    refine rr_iast C hN 17 (Nat.lt_of_lt_of_le (by decide) hNN) (fun _ => rfl) (by decide) (P + 1) (by omega) hq_5 dX5_package0_190 (fun u19 eu19 H locs hN => ?_)
                    have hq_6 : u19 0 12 = nI (P + 1) := by rw [eu19, ww_up_ne (by decide)]; exact hq_5
                    have hg_6 : u19 0 22 = nI g0 := by rw [eu19, ww_up_ne (by decide)]; exact hg_5
                    refine lv_iconst (v := 0) hx hb dX5_package0_191 (by decide) ?_
                    refine lv_istore (lv' := [(4, .int 0), (0, .ref (B 0)), (1, .int x), (2, .int ed), (3, .int z)]) hx hb dX5_package0_192 hl (by decide) rfl (fun ls hl => ?_)
                    have hNEW : u19 = mo_new (mo_out (mo_z u) q) q P g0 ed := by rw [eu19, hq_5, eu18, eu17, hg_3, eu16, eu15, eu14, hq_0, eu13, ev12, hpk0, nI_1, hxq, hO]; rfl
                    have hpl : u19 13 (P + 1) = nI g0 := by rw [hNEW]; unfold mo_new; rw [ww_up_ne (by decide), ww_up_ne (by decide), ww_up_self]
                    exact lp_X5_package0 C hNN hP60l hg x ed z g0 0 0 u19 (by omega) rfl hq_6 hg_6 hpl (by unfold mo_pack; rw [if_pos hF]) (by unfold mo_pack; rw [if_pos hF, hNEW]; rfl) _ _ _ hN (lv_sub hl [1, 2, 3, 4, 0] rfl)
                · refine lv_bipush (v := (-7)) hx hb dX5_package0_91 (by decide) ?_
                  have hF : mo_refuse (mo_z u) q ed z = (-7) := by unfold mo_refuse; rw [if_neg c_12, if_neg c_19, if_neg c_26, if_pos (by rw [← ev2]; exact c_38), if_neg c_50, if_neg c_57, if_pos c_75, if_neg c_88]
                  exact rr_iret C hN dX5_package0_93 (by unfold mo_pack; rw [if_neg (by rw [hF]; decide), hF]) (by unfold mo_pack; rw [if_neg (by rw [hF]; decide)])
              · refine lv_bipush (v := (-6)) hx hb dX5_package0_78 (by decide) ?_
                have hF : mo_refuse (mo_z u) q ed z = (-6) := by unfold mo_refuse; rw [if_neg c_12, if_neg c_19, if_neg c_26, if_pos (by rw [← ev2]; exact c_38), if_neg c_50, if_neg c_57, if_neg c_75]
                exact rr_iret C hN dX5_package0_80 (by unfold mo_pack; rw [if_neg (by rw [hF]; decide), hF]) (by unfold mo_pack; rw [if_neg (by rw [hF]; decide)])
            · refine lv_bipush (v := (-5)) hx hb dX5_package0_60 (by decide) ?_
              have hF : mo_refuse (mo_z u) q ed z = (-5) := by unfold mo_refuse; rw [if_neg c_12, if_neg c_19, if_neg c_26, if_pos (by rw [← ev2]; exact c_38), if_neg c_50, if_pos c_57]
              exact rr_iret C hN dX5_package0_62 (by unfold mo_pack; rw [if_neg (by rw [hF]; decide), hF]) (by unfold mo_pack; rw [if_neg (by rw [hF]; decide)])
          · refine lv_bipush (v := (-4)) hx hb dX5_package0_53 (by decide) ?_
            have hF : mo_refuse (mo_z u) q ed z = (-4) := by unfold mo_refuse; rw [if_neg c_12, if_neg c_19, if_neg c_26, if_pos (by rw [← ev2]; exact c_38), if_pos c_50]
            exact rr_iret C hN dX5_package0_55 (by unfold mo_pack; rw [if_neg (by rw [hF]; decide), hF]) (by unfold mo_pack; rw [if_neg (by rw [hF]; decide)])
        · refine lv_bipush (v := (-3)) hx hb dX5_package0_41 (by decide) ?_
          have hF : mo_refuse (mo_z u) q ed z = (-3) := by unfold mo_refuse; rw [if_neg c_12, if_neg c_19, if_neg c_26, if_neg (by rw [← ev2]; exact c_38)]
          exact rr_iret C hN dX5_package0_43 (by unfold mo_pack; rw [if_neg (by rw [hF]; decide), hF]) (by unfold mo_pack; rw [if_neg (by rw [hF]; decide)])
      · refine lv_bipush (v := (-2)) hx hb dX5_package0_29 (by decide) ?_
        have hF : mo_refuse (mo_z u) q ed z = (-2) := by unfold mo_refuse; rw [if_neg c_12, if_neg c_19, if_pos c_26]
        exact rr_iret C hN dX5_package0_31 (by unfold mo_pack; rw [if_neg (by rw [hF]; decide), hF]) (by unfold mo_pack; rw [if_neg (by rw [hF]; decide)])
