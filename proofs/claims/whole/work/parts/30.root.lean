def mo_cm (u : ww_U) (p : Int32) (t k : Nat) (m e : Int32) : Int32 := if m = 0 then (if e = 0 then (if u 24 (11 - k) ≤ (if 11 - k = 2 * t then p else 0) then 0 else 1) else 0) else 1
def mo_ce (u : ww_U) (p : Int32) (t k : Nat) (m e : Int32) : Int32 := if e = 0 then (if mo_cm u p t k m e = 0 then (if (if 11 - k = 2 * t then p else 0) ≤ u 24 (11 - k) then 0 else 1) else 0) else 1
def mo_cmp : Nat → Nat → ww_U → Int32 → Nat → Int32 → Int32 → Int32
  | 0, _, _, _, _, m, _ => m
  | d + 1, k, u, p, t, m, e => mo_cmp d (k + 1) u p t (mo_cm u p t k m e) (mo_ce u p t k m e)
def mo_try (x : Int64) (k : Nat) : Int64 := x ||| ((1 : Int64) <<< ((nI (37 - k)).toInt64 &&& 63))
def mo_rt : Nat → Nat → Int32 → Nat → Int64 → ww_U → ww_U × Int64
  | 0, _, _, _, x, u => (u, x)
  | d + 1, k, p, t, x, u => mo_rt d (k + 1) p t (if mo_cmp 12 0 (mo_raise (mo_try x k) t u) p t 0 0 = 0 then mo_try x k else x) (mo_raise (mo_try x k) t u)
theorem nI_dn {c k : Nat} (h : k ≤ c) : nI c - nI k = nI (c - k) := pk_sub h
theorem nI_dn1 {c k : Nat} : nI c - nI k + (-1) = nI c - nI (k + 1) := by
  rw [← nI_1]
  simp [Int32.sub_eq_add_neg, Int32.neg_add, Int32.add_assoc]
set_option maxRecDepth 20000 in
theorem kw_X5_root_X5 : ww_K wsX5_root RX5 TX5 36 tyX5 := ⟨by decide +kernel, tyX5_ok, nmX5⟩
set_option maxHeartbeats 4000000 in
set_option maxRecDepth 100000 in
theorem lp_X5_rt2 {p : Program} {l : Launch} {e : Env} {s : State} {m : MethodId} {args : Array Value} {below : List Frame} {meth : Method} {c : Code} {D : va_G} {ca : Nat → ClassId} {B : Nat → Nat} {N n : Nat} {X : va_W} (C : ww_C D ca yX5_root.cls cX5_root 10 wsX5_root (some .long) (ww_A B N X s.heap.size) p s m args meth c) (hNN : 29 ≤ N) (pv tv : Int32) (x : Int64) (bv : Int32) {t0 : Nat} (ht0 : t0 ≤ 3) (htv : tv = nI t0) {Q : State → Prop} {uf : ww_U} {maf : Int32} (kk : ∀ (H : Heap) (locs : List Loc) (ls : Array Slot), ww_N D ca B N n uf X (ww_A B N X s.heap.size) s.heap H locs → lv_has ls 10 [(0, .ref (B 0)), (1, .int pv), (2, .int tv), (3, .long x), (5, .int bv), (6, .int maf)] → W p l e (headSpec wsX5_root ({ frames := 1, cells := 0, slots := 0, locals := 28 } : Room)).room s m args below meth c H locs 0 0 Q (F0 m 116 ls [])) : ∀ (d k : Nat) (ma : Int32) (le : Int32) (y : Int32) (u : ww_U), k + d = 12 → (y = nI 11 - nI k) → uf = u → maf = mo_cmp d k u pv t0 ma le → ∀ (H : Heap) (locs : List Loc) (ls : Array Slot), ww_N D ca B N n u X (ww_A B N X s.heap.size) s.heap H locs → lv_has ls 10 [(0, .ref (B 0)), (1, .int pv), (2, .int tv), (3, .long x), (5, .int bv), (6, .int ma), (7, .int le), (8, .int y)] → W p l e (headSpec wsX5_root ({ frames := 1, cells := 0, slots := 0, locals := 28 } : Room)).room s m args below meth c H locs 0 0 Q (F0 m 32 ls []) := by
  have hx := C.1.1
  have hb := C.1.2.1
  intro d
  induction d with
  | zero =>
    intro k ma le y u hkd hxk hu ho_ma H locs ls hN hl
    refine lv_iload hx hb dX5_root_32 (lv_at hl 7 rfl) ?_
    refine lv_if_lt (tgt := 116) hx hb dX5_root_34 (by decide) (fun c_34 => ?_) (fun c_34 => absurd c_34 (fun h => h (by rw [hxk, show k = 12 by omega]; decide)))
    have hE : uf = u := hu
    rw [← hE] at hN
    have hz_ma : maf = ma := ho_ma
    subst hz_ma
    exact kk H locs ls hN (lv_sub hl [0, 1, 2, 3, 4, 5] rfl)
  | succ d ih =>
    intro k ma le y u hkd hxk hu ho_ma H locs ls hN hl
    refine lv_iload hx hb dX5_root_32 (lv_at hl 7 rfl) ?_
    refine lv_if_lt (tgt := 116) hx hb dX5_root_34 (by decide) (fun c_34 => absurd c_34 (by rw [hxk, nI_dn (by omega)]; exact nI_pos (by omega))) (fun c_34 => ?_)
    refine lv_iload hx hb dX5_root_37 (lv_at hl 7 rfl) ?_
    refine lv_iconst (v := 2) hx hb dX5_root_39 (by decide) ?_
    refine lv_iload_n hx hb dX5_root_40 rfl (lv_at hl 2 rfl) ?_
    refine lv_imul hx hb dX5_root_41 ?_
    refine lv_topi (fun vs1 evs1 => ?_)
    refine lv_icmp_ne (tgt := 49) hx hb dX5_root_42 (by decide) (fun c_42 => ?_) (fun c_42 => ?_)
    · have hk2 : ¬ 11 - k = 2 * t0 := fun h => c_42 (by rw [evs1, hxk, htv, nI_dn (by omega), h]; exact (pk_mul 2 t0).symm)
      have hpt : (if 11 - k = 2 * t0 then pv else 0) = 0 := if_neg hk2
      refine lv_iconst (v := 0) hx hb dX5_root_49 (by decide) ?_
      refine lv_istore (lv' := [(9, .int 0), (0, .ref (B 0)), (1, .int pv), (2, .int tv), (3, .long x), (5, .int bv), (6, .int ma), (7, .int le), (8, .int y)]) hx hb dX5_root_50 hl (by decide) rfl (fun ls hl => ?_)
      refine lv_iload hx hb dX5_root_52 (lv_at hl 6 rfl) ?_
      refine lv_if_ne (tgt := 74) hx hb dX5_root_54 (by decide) (fun c_54 => ?_) (fun c_54 => ?_)
      · refine lv_iconst (v := 1) hx hb dX5_root_74 (by decide) ?_
        refine lv_goto (tgt := 79) hx hb dX5_root_75 (by decide) ?_
        refine lv_istore (lv' := [(6, .int 1), (9, .int 0), (0, .ref (B 0)), (1, .int pv), (2, .int tv), (3, .long x), (5, .int bv), (7, .int le), (8, .int y)]) hx hb dX5_root_79 hl (by decide) rfl (fun ls hl => ?_)
        refine lv_iload hx hb dX5_root_81 (lv_at hl 7 rfl) ?_
        refine lv_if_ne (tgt := 103) hx hb dX5_root_83 (by decide) (fun c_83 => ?_) (fun c_83 => ?_)
        · refine lv_iconst (v := 1) hx hb dX5_root_103 (by decide) ?_
          refine lv_goto (tgt := 108) hx hb dX5_root_104 (by decide) ?_
          refine lv_istore (lv' := [(7, .int 1), (6, .int 1), (9, .int 0), (0, .ref (B 0)), (1, .int pv), (2, .int tv), (3, .long x), (5, .int bv), (8, .int y)]) hx hb dX5_root_108 hl (by decide) rfl (fun ls hl => ?_)
          have hM : mo_cm u pv t0 k ma le = 1 := by unfold mo_cm; rw [if_neg c_54]
          have hL : mo_ce u pv t0 k ma le = 1 := by unfold mo_ce; rw [hM]; rw [if_neg c_83]
          obtain ⟨vs2, evs2⟩ : ∃ y9 : Int32, y9 = y + (-1) := ⟨_, rfl⟩
          refine lv_iinc (v := vs2) (lv' := [(8, .int vs2), (7, .int 1), (6, .int 1), (9, .int 0), (0, .ref (B 0)), (1, .int pv), (2, .int tv), (3, .long x), (5, .int bv)]) hx hb dX5_root_110 hl (k := 8) rfl (by rw [evs2]; rfl) (by decide) rfl (fun ls hl => ?_)
          refine lv_goto (tgt := 32) hx hb dX5_root_113 (by decide) ?_
          exact ih (k + 1) 1 1 vs2 u (by omega) (by rw [evs2, hxk]; exact nI_dn1) hu (ho_ma.trans (by simp only [mo_cmp]; rw [hM, hL])) H locs ls hN (lv_sub hl [4, 5, 6, 7, 8, 2, 1, 0] rfl)
        · refine lv_iload hx hb dX5_root_86 (lv_at hl 0 rfl) ?_
          refine lv_if_ne (tgt := 107) hx hb dX5_root_88 (by decide) (fun c_88 => ?_) (fun c_88 => ?_)
          · refine lv_iconst (v := 0) hx hb dX5_root_107 (by decide) ?_
            refine lv_istore (lv' := [(7, .int 0), (6, .int 1), (9, .int 0), (0, .ref (B 0)), (1, .int pv), (2, .int tv), (3, .long x), (5, .int bv), (8, .int y)]) hx hb dX5_root_108 hl (by decide) rfl (fun ls hl => ?_)
            have hM : mo_cm u pv t0 k ma le = 1 := by unfold mo_cm; rw [if_neg c_54]
            have hL : mo_ce u pv t0 k ma le = 0 := by unfold mo_ce; rw [hM]; rw [if_pos c_83, if_neg (by first | exact c_88 | decide)]
            obtain ⟨vs3, evs3⟩ : ∃ y9 : Int32, y9 = y + (-1) := ⟨_, rfl⟩
            refine lv_iinc (v := vs3) (lv' := [(8, .int vs3), (7, .int 0), (6, .int 1), (9, .int 0), (0, .ref (B 0)), (1, .int pv), (2, .int tv), (3, .long x), (5, .int bv)]) hx hb dX5_root_110 hl (k := 8) rfl (by rw [evs3]; rfl) (by decide) rfl (fun ls hl => ?_)
            refine lv_goto (tgt := 32) hx hb dX5_root_113 (by decide) ?_
            exact ih (k + 1) 1 0 vs3 u (by omega) (by rw [evs3, hxk]; exact nI_dn1) hu (ho_ma.trans (by simp only [mo_cmp]; rw [hM, hL])) H locs ls hN (lv_sub hl [4, 5, 6, 7, 8, 2, 1, 0] rfl)
          · refine lv_aload_n hx hb dX5_root_91 rfl (lv_at hl 2 rfl) ?_
            refine rr_get C hN 0 (Nat.lt_of_lt_of_le (by decide) hNN) rfl rfl kw_X5_root_X5 31 (by decide) (List.mem_of_getElem? (i := 1) rfl) (v := .ref (B 24)) rfl dX5_root_92 ?_
            refine lv_iload hx hb dX5_root_95 (lv_at hl 8 rfl) ?_
            refine rr_iald C hN 24 (Nat.lt_of_lt_of_le (by decide) hNN) rfl (by decide) (11 - k) (by omega) (by rw [hxk]; exact nI_dn (by omega)) dX5_root_97 ?_
            refine lv_iload hx hb dX5_root_98 (lv_at hl 1 rfl) ?_
            refine lv_icmp_ge (tgt := 107) hx hb dX5_root_100 (by decide) (fun c_100 => ?_) (fun c_100 => ?_)
            · refine lv_iconst (v := 0) hx hb dX5_root_107 (by decide) ?_
              refine lv_istore (lv' := [(7, .int 0), (6, .int 1), (9, .int 0), (0, .ref (B 0)), (1, .int pv), (2, .int tv), (3, .long x), (5, .int bv), (8, .int y)]) hx hb dX5_root_108 hl (by decide) rfl (fun ls hl => ?_)
              have hM : mo_cm u pv t0 k ma le = 1 := by unfold mo_cm; rw [if_neg c_54]
              have hL : mo_ce u pv t0 k ma le = 0 := by unfold mo_ce; rw [hM]; rw [if_pos c_83, if_pos (by first | exact c_88 | rfl), hpt, if_pos c_100]
              obtain ⟨vs4, evs4⟩ : ∃ y9 : Int32, y9 = y + (-1) := ⟨_, rfl⟩
              refine lv_iinc (v := vs4) (lv' := [(8, .int vs4), (7, .int 0), (6, .int 1), (9, .int 0), (0, .ref (B 0)), (1, .int pv), (2, .int tv), (3, .long x), (5, .int bv)]) hx hb dX5_root_110 hl (k := 8) rfl (by rw [evs4]; rfl) (by decide) rfl (fun ls hl => ?_)
              refine lv_goto (tgt := 32) hx hb dX5_root_113 (by decide) ?_
              exact ih (k + 1) 1 0 vs4 u (by omega) (by rw [evs4, hxk]; exact nI_dn1) hu (ho_ma.trans (by simp only [mo_cmp]; rw [hM, hL])) H locs ls hN (lv_sub hl [4, 5, 6, 7, 8, 2, 1, 0] rfl)
            · refine lv_iconst (v := 1) hx hb dX5_root_103 (by decide) ?_
              refine lv_goto (tgt := 108) hx hb dX5_root_104 (by decide) ?_
              refine lv_istore (lv' := [(7, .int 1), (6, .int 1), (9, .int 0), (0, .ref (B 0)), (1, .int pv), (2, .int tv), (3, .long x), (5, .int bv), (8, .int y)]) hx hb dX5_root_108 hl (by decide) rfl (fun ls hl => ?_)
              have hM : mo_cm u pv t0 k ma le = 1 := by unfold mo_cm; rw [if_neg c_54]
              have hL : mo_ce u pv t0 k ma le = 1 := by unfold mo_ce; rw [hM]; rw [if_pos c_83, if_pos (by first | exact c_88 | rfl), hpt, if_neg c_100]
              obtain ⟨vs5, evs5⟩ : ∃ y9 : Int32, y9 = y + (-1) := ⟨_, rfl⟩
              refine lv_iinc (v := vs5) (lv' := [(8, .int vs5), (7, .int 1), (6, .int 1), (9, .int 0), (0, .ref (B 0)), (1, .int pv), (2, .int tv), (3, .long x), (5, .int bv)]) hx hb dX5_root_110 hl (k := 8) rfl (by rw [evs5]; rfl) (by decide) rfl (fun ls hl => ?_)
              refine lv_goto (tgt := 32) hx hb dX5_root_113 (by decide) ?_
              exact ih (k + 1) 1 1 vs5 u (by omega) (by rw [evs5, hxk]; exact nI_dn1) hu (ho_ma.trans (by simp only [mo_cmp]; rw [hM, hL])) H locs ls hN (lv_sub hl [4, 5, 6, 7, 8, 2, 1, 0] rfl)
      · refine lv_iload hx hb dX5_root_57 (lv_at hl 7 rfl) ?_
        refine lv_if_ne (tgt := 78) hx hb dX5_root_59 (by decide) (fun c_59 => ?_) (fun c_59 => ?_)
        · refine lv_iconst (v := 0) hx hb dX5_root_78 (by decide) ?_
          refine lv_istore (lv' := [(6, .int 0), (9, .int 0), (0, .ref (B 0)), (1, .int pv), (2, .int tv), (3, .long x), (5, .int bv), (7, .int le), (8, .int y)]) hx hb dX5_root_79 hl (by decide) rfl (fun ls hl => ?_)
          refine lv_iload hx hb dX5_root_81 (lv_at hl 7 rfl) ?_
          refine lv_if_ne (tgt := 103) hx hb dX5_root_83 (by decide) (fun c_83 => ?_) (fun c_83 => ?_)
          · refine lv_iconst (v := 1) hx hb dX5_root_103 (by decide) ?_
            refine lv_goto (tgt := 108) hx hb dX5_root_104 (by decide) ?_
            refine lv_istore (lv' := [(7, .int 1), (6, .int 0), (9, .int 0), (0, .ref (B 0)), (1, .int pv), (2, .int tv), (3, .long x), (5, .int bv), (8, .int y)]) hx hb dX5_root_108 hl (by decide) rfl (fun ls hl => ?_)
            have hM : mo_cm u pv t0 k ma le = 0 := by unfold mo_cm; rw [if_pos c_54, if_neg c_59]
            have hL : mo_ce u pv t0 k ma le = 1 := by unfold mo_ce; rw [hM]; rw [if_neg c_83]
            obtain ⟨vs6, evs6⟩ : ∃ y9 : Int32, y9 = y + (-1) := ⟨_, rfl⟩
            refine lv_iinc (v := vs6) (lv' := [(8, .int vs6), (7, .int 1), (6, .int 0), (9, .int 0), (0, .ref (B 0)), (1, .int pv), (2, .int tv), (3, .long x), (5, .int bv)]) hx hb dX5_root_110 hl (k := 8) rfl (by rw [evs6]; rfl) (by decide) rfl (fun ls hl => ?_)
            refine lv_goto (tgt := 32) hx hb dX5_root_113 (by decide) ?_
            exact ih (k + 1) 0 1 vs6 u (by omega) (by rw [evs6, hxk]; exact nI_dn1) hu (ho_ma.trans (by simp only [mo_cmp]; rw [hM, hL])) H locs ls hN (lv_sub hl [4, 5, 6, 7, 8, 2, 1, 0] rfl)
          · refine lv_iload hx hb dX5_root_86 (lv_at hl 0 rfl) ?_
            refine lv_if_ne (tgt := 107) hx hb dX5_root_88 (by decide) (fun c_88 => ?_) (fun c_88 => ?_)
            · refine lv_iconst (v := 0) hx hb dX5_root_107 (by decide) ?_
              refine lv_istore (lv' := [(7, .int 0), (6, .int 0), (9, .int 0), (0, .ref (B 0)), (1, .int pv), (2, .int tv), (3, .long x), (5, .int bv), (8, .int y)]) hx hb dX5_root_108 hl (by decide) rfl (fun ls hl => ?_)
              have hM : mo_cm u pv t0 k ma le = 0 := by unfold mo_cm; rw [if_pos c_54, if_neg c_59]
              have hL : mo_ce u pv t0 k ma le = 0 := by unfold mo_ce; rw [hM]; rw [if_pos c_83, if_neg (by first | exact c_88 | decide)]
              obtain ⟨vs7, evs7⟩ : ∃ y9 : Int32, y9 = y + (-1) := ⟨_, rfl⟩
              refine lv_iinc (v := vs7) (lv' := [(8, .int vs7), (7, .int 0), (6, .int 0), (9, .int 0), (0, .ref (B 0)), (1, .int pv), (2, .int tv), (3, .long x), (5, .int bv)]) hx hb dX5_root_110 hl (k := 8) rfl (by rw [evs7]; rfl) (by decide) rfl (fun ls hl => ?_)
              refine lv_goto (tgt := 32) hx hb dX5_root_113 (by decide) ?_
              exact ih (k + 1) 0 0 vs7 u (by omega) (by rw [evs7, hxk]; exact nI_dn1) hu (ho_ma.trans (by simp only [mo_cmp]; rw [hM, hL])) H locs ls hN (lv_sub hl [4, 5, 6, 7, 8, 2, 1, 0] rfl)
            · refine lv_aload_n hx hb dX5_root_91 rfl (lv_at hl 2 rfl) ?_
              refine rr_get C hN 0 (Nat.lt_of_lt_of_le (by decide) hNN) rfl rfl kw_X5_root_X5 31 (by decide) (List.mem_of_getElem? (i := 1) rfl) (v := .ref (B 24)) rfl dX5_root_92 ?_
              refine lv_iload hx hb dX5_root_95 (lv_at hl 8 rfl) ?_
              refine rr_iald C hN 24 (Nat.lt_of_lt_of_le (by decide) hNN) rfl (by decide) (11 - k) (by omega) (by rw [hxk]; exact nI_dn (by omega)) dX5_root_97 ?_
              refine lv_iload hx hb dX5_root_98 (lv_at hl 1 rfl) ?_
              refine lv_icmp_ge (tgt := 107) hx hb dX5_root_100 (by decide) (fun c_100 => ?_) (fun c_100 => ?_)
              · refine lv_iconst (v := 0) hx hb dX5_root_107 (by decide) ?_
                refine lv_istore (lv' := [(7, .int 0), (6, .int 0), (9, .int 0), (0, .ref (B 0)), (1, .int pv), (2, .int tv), (3, .long x), (5, .int bv), (8, .int y)]) hx hb dX5_root_108 hl (by decide) rfl (fun ls hl => ?_)
                have hM : mo_cm u pv t0 k ma le = 0 := by unfold mo_cm; rw [if_pos c_54, if_neg c_59]
                have hL : mo_ce u pv t0 k ma le = 0 := by unfold mo_ce; rw [hM]; rw [if_pos c_83, if_pos (by first | exact c_88 | rfl), hpt, if_pos c_100]
                obtain ⟨vs8, evs8⟩ : ∃ y9 : Int32, y9 = y + (-1) := ⟨_, rfl⟩
                refine lv_iinc (v := vs8) (lv' := [(8, .int vs8), (7, .int 0), (6, .int 0), (9, .int 0), (0, .ref (B 0)), (1, .int pv), (2, .int tv), (3, .long x), (5, .int bv)]) hx hb dX5_root_110 hl (k := 8) rfl (by rw [evs8]; rfl) (by decide) rfl (fun ls hl => ?_)
                refine lv_goto (tgt := 32) hx hb dX5_root_113 (by decide) ?_
                exact ih (k + 1) 0 0 vs8 u (by omega) (by rw [evs8, hxk]; exact nI_dn1) hu (ho_ma.trans (by simp only [mo_cmp]; rw [hM, hL])) H locs ls hN (lv_sub hl [4, 5, 6, 7, 8, 2, 1, 0] rfl)
              · refine lv_iconst (v := 1) hx hb dX5_root_103 (by decide) ?_
                refine lv_goto (tgt := 108) hx hb dX5_root_104 (by decide) ?_
                refine lv_istore (lv' := [(7, .int 1), (6, .int 0), (9, .int 0), (0, .ref (B 0)), (1, .int pv), (2, .int tv), (3, .long x), (5, .int bv), (8, .int y)]) hx hb dX5_root_108 hl (by decide) rfl (fun ls hl => ?_)
                have hM : mo_cm u pv t0 k ma le = 0 := by unfold mo_cm; rw [if_pos c_54, if_neg c_59]
                have hL : mo_ce u pv t0 k ma le = 1 := by unfold mo_ce; rw [hM]; rw [if_pos c_83, if_pos (by first | exact c_88 | rfl), hpt, if_neg c_100]
                obtain ⟨vs9, evs9⟩ : ∃ y9 : Int32, y9 = y + (-1) := ⟨_, rfl⟩
                refine lv_iinc (v := vs9) (lv' := [(8, .int vs9), (7, .int 1), (6, .int 0), (9, .int 0), (0, .ref (B 0)), (1, .int pv), (2, .int tv), (3, .long x), (5, .int bv)]) hx hb dX5_root_110 hl (k := 8) rfl (by rw [evs9]; rfl) (by decide) rfl (fun ls hl => ?_)
                refine lv_goto (tgt := 32) hx hb dX5_root_113 (by decide) ?_
                exact ih (k + 1) 0 1 vs9 u (by omega) (by rw [evs9, hxk]; exact nI_dn1) hu (ho_ma.trans (by simp only [mo_cmp]; rw [hM, hL])) H locs ls hN (lv_sub hl [4, 5, 6, 7, 8, 2, 1, 0] rfl)
        · refine lv_aload_n hx hb dX5_root_62 rfl (lv_at hl 1 rfl) ?_
          refine rr_get C hN 0 (Nat.lt_of_lt_of_le (by decide) hNN) rfl rfl kw_X5_root_X5 31 (by decide) (List.mem_of_getElem? (i := 1) rfl) (v := .ref (B 24)) rfl dX5_root_63 ?_
          refine lv_iload hx hb dX5_root_66 (lv_at hl 8 rfl) ?_
          refine rr_iald C hN 24 (Nat.lt_of_lt_of_le (by decide) hNN) rfl (by decide) (11 - k) (by omega) (by rw [hxk]; exact nI_dn (by omega)) dX5_root_68 ?_
          refine lv_iload hx hb dX5_root_69 (lv_at hl 0 rfl) ?_
          refine lv_icmp_le (tgt := 78) hx hb dX5_root_71 (by decide) (fun c_71 => ?_) (fun c_71 => ?_)
          · refine lv_iconst (v := 0) hx hb dX5_root_78 (by decide) ?_
            refine lv_istore (lv' := [(6, .int 0), (9, .int 0), (0, .ref (B 0)), (1, .int pv), (2, .int tv), (3, .long x), (5, .int bv), (7, .int le), (8, .int y)]) hx hb dX5_root_79 hl (by decide) rfl (fun ls hl => ?_)
            refine lv_iload hx hb dX5_root_81 (lv_at hl 7 rfl) ?_
            refine lv_if_ne (tgt := 103) hx hb dX5_root_83 (by decide) (fun c_83 => ?_) (fun c_83 => ?_)
            · refine lv_iconst (v := 1) hx hb dX5_root_103 (by decide) ?_
              refine lv_goto (tgt := 108) hx hb dX5_root_104 (by decide) ?_
              refine lv_istore (lv' := [(7, .int 1), (6, .int 0), (9, .int 0), (0, .ref (B 0)), (1, .int pv), (2, .int tv), (3, .long x), (5, .int bv), (8, .int y)]) hx hb dX5_root_108 hl (by decide) rfl (fun ls hl => ?_)
              have hM : mo_cm u pv t0 k ma le = 0 := by unfold mo_cm; rw [if_pos c_54, if_pos c_59, hpt, if_pos c_71]
              have hL : mo_ce u pv t0 k ma le = 1 := by unfold mo_ce; rw [hM]; rw [if_neg c_83]
              obtain ⟨vs10, evs10⟩ : ∃ y9 : Int32, y9 = y + (-1) := ⟨_, rfl⟩
              refine lv_iinc (v := vs10) (lv' := [(8, .int vs10), (7, .int 1), (6, .int 0), (9, .int 0), (0, .ref (B 0)), (1, .int pv), (2, .int tv), (3, .long x), (5, .int bv)]) hx hb dX5_root_110 hl (k := 8) rfl (by rw [evs10]; rfl) (by decide) rfl (fun ls hl => ?_)
              refine lv_goto (tgt := 32) hx hb dX5_root_113 (by decide) ?_
              exact ih (k + 1) 0 1 vs10 u (by omega) (by rw [evs10, hxk]; exact nI_dn1) hu (ho_ma.trans (by simp only [mo_cmp]; rw [hM, hL])) H locs ls hN (lv_sub hl [4, 5, 6, 7, 8, 2, 1, 0] rfl)
            · refine lv_iload hx hb dX5_root_86 (lv_at hl 0 rfl) ?_
              refine lv_if_ne (tgt := 107) hx hb dX5_root_88 (by decide) (fun c_88 => ?_) (fun c_88 => ?_)
              · refine lv_iconst (v := 0) hx hb dX5_root_107 (by decide) ?_
                refine lv_istore (lv' := [(7, .int 0), (6, .int 0), (9, .int 0), (0, .ref (B 0)), (1, .int pv), (2, .int tv), (3, .long x), (5, .int bv), (8, .int y)]) hx hb dX5_root_108 hl (by decide) rfl (fun ls hl => ?_)
                have hM : mo_cm u pv t0 k ma le = 0 := by unfold mo_cm; rw [if_pos c_54, if_pos c_59, hpt, if_pos c_71]
                have hL : mo_ce u pv t0 k ma le = 0 := by unfold mo_ce; rw [hM]; rw [if_pos c_83, if_neg (by first | exact c_88 | decide)]
                obtain ⟨vs11, evs11⟩ : ∃ y9 : Int32, y9 = y + (-1) := ⟨_, rfl⟩
                refine lv_iinc (v := vs11) (lv' := [(8, .int vs11), (7, .int 0), (6, .int 0), (9, .int 0), (0, .ref (B 0)), (1, .int pv), (2, .int tv), (3, .long x), (5, .int bv)]) hx hb dX5_root_110 hl (k := 8) rfl (by rw [evs11]; rfl) (by decide) rfl (fun ls hl => ?_)
                refine lv_goto (tgt := 32) hx hb dX5_root_113 (by decide) ?_
                exact ih (k + 1) 0 0 vs11 u (by omega) (by rw [evs11, hxk]; exact nI_dn1) hu (ho_ma.trans (by simp only [mo_cmp]; rw [hM, hL])) H locs ls hN (lv_sub hl [4, 5, 6, 7, 8, 2, 1, 0] rfl)
              · refine lv_aload_n hx hb dX5_root_91 rfl (lv_at hl 2 rfl) ?_
                refine rr_get C hN 0 (Nat.lt_of_lt_of_le (by decide) hNN) rfl rfl kw_X5_root_X5 31 (by decide) (List.mem_of_getElem? (i := 1) rfl) (v := .ref (B 24)) rfl dX5_root_92 ?_
                refine lv_iload hx hb dX5_root_95 (lv_at hl 8 rfl) ?_
                refine rr_iald C hN 24 (Nat.lt_of_lt_of_le (by decide) hNN) rfl (by decide) (11 - k) (by omega) (by rw [hxk]; exact nI_dn (by omega)) dX5_root_97 ?_
                refine lv_iload hx hb dX5_root_98 (lv_at hl 1 rfl) ?_
                refine lv_icmp_ge (tgt := 107) hx hb dX5_root_100 (by decide) (fun c_100 => ?_) (fun c_100 => ?_)
                · refine lv_iconst (v := 0) hx hb dX5_root_107 (by decide) ?_
                  refine lv_istore (lv' := [(7, .int 0), (6, .int 0), (9, .int 0), (0, .ref (B 0)), (1, .int pv), (2, .int tv), (3, .long x), (5, .int bv), (8, .int y)]) hx hb dX5_root_108 hl (by decide) rfl (fun ls hl => ?_)
                  have hM : mo_cm u pv t0 k ma le = 0 := by unfold mo_cm; rw [if_pos c_54, if_pos c_59, hpt, if_pos c_71]
                  have hL : mo_ce u pv t0 k ma le = 0 := by unfold mo_ce; rw [hM]; rw [if_pos c_83, if_pos (by first | exact c_88 | rfl), hpt, if_pos c_100]
                  obtain ⟨vs12, evs12⟩ : ∃ y9 : Int32, y9 = y + (-1) := ⟨_, rfl⟩
                  refine lv_iinc (v := vs12) (lv' := [(8, .int vs12), (7, .int 0), (6, .int 0), (9, .int 0), (0, .ref (B 0)), (1, .int pv), (2, .int tv), (3, .long x), (5, .int bv)]) hx hb dX5_root_110 hl (k := 8) rfl (by rw [evs12]; rfl) (by decide) rfl (fun ls hl => ?_)
                  refine lv_goto (tgt := 32) hx hb dX5_root_113 (by decide) ?_
                  exact ih (k + 1) 0 0 vs12 u (by omega) (by rw [evs12, hxk]; exact nI_dn1) hu (ho_ma.trans (by simp only [mo_cmp]; rw [hM, hL])) H locs ls hN (lv_sub hl [4, 5, 6, 7, 8, 2, 1, 0] rfl)
                · refine lv_iconst (v := 1) hx hb dX5_root_103 (by decide) ?_
                  refine lv_goto (tgt := 108) hx hb dX5_root_104 (by decide) ?_
                  refine lv_istore (lv' := [(7, .int 1), (6, .int 0), (9, .int 0), (0, .ref (B 0)), (1, .int pv), (2, .int tv), (3, .long x), (5, .int bv), (8, .int y)]) hx hb dX5_root_108 hl (by decide) rfl (fun ls hl => ?_)
                  have hM : mo_cm u pv t0 k ma le = 0 := by unfold mo_cm; rw [if_pos c_54, if_pos c_59, hpt, if_pos c_71]
                  have hL : mo_ce u pv t0 k ma le = 1 := by unfold mo_ce; rw [hM]; rw [if_pos c_83, if_pos (by first | exact c_88 | rfl), hpt, if_neg c_100]
                  obtain ⟨vs13, evs13⟩ : ∃ y9 : Int32, y9 = y + (-1) := ⟨_, rfl⟩
                  refine lv_iinc (v := vs13) (lv' := [(8, .int vs13), (7, .int 1), (6, .int 0), (9, .int 0), (0, .ref (B 0)), (1, .int pv), (2, .int tv), (3, .long x), (5, .int bv)]) hx hb dX5_root_110 hl (k := 8) rfl (by rw [evs13]; rfl) (by decide) rfl (fun ls hl => ?_)
                  refine lv_goto (tgt := 32) hx hb dX5_root_113 (by decide) ?_
                  exact ih (k + 1) 0 1 vs13 u (by omega) (by rw [evs13, hxk]; exact nI_dn1) hu (ho_ma.trans (by simp only [mo_cmp]; rw [hM, hL])) H locs ls hN (lv_sub hl [4, 5, 6, 7, 8, 2, 1, 0] rfl)
          · refine lv_iconst (v := 1) hx hb dX5_root_74 (by decide) ?_
            refine lv_goto (tgt := 79) hx hb dX5_root_75 (by decide) ?_
            refine lv_istore (lv' := [(6, .int 1), (9, .int 0), (0, .ref (B 0)), (1, .int pv), (2, .int tv), (3, .long x), (5, .int bv), (7, .int le), (8, .int y)]) hx hb dX5_root_79 hl (by decide) rfl (fun ls hl => ?_)
            refine lv_iload hx hb dX5_root_81 (lv_at hl 7 rfl) ?_
            refine lv_if_ne (tgt := 103) hx hb dX5_root_83 (by decide) (fun c_83 => ?_) (fun c_83 => ?_)
            · refine lv_iconst (v := 1) hx hb dX5_root_103 (by decide) ?_
              refine lv_goto (tgt := 108) hx hb dX5_root_104 (by decide) ?_
              refine lv_istore (lv' := [(7, .int 1), (6, .int 1), (9, .int 0), (0, .ref (B 0)), (1, .int pv), (2, .int tv), (3, .long x), (5, .int bv), (8, .int y)]) hx hb dX5_root_108 hl (by decide) rfl (fun ls hl => ?_)
              have hM : mo_cm u pv t0 k ma le = 1 := by unfold mo_cm; rw [if_pos c_54, if_pos c_59, hpt, if_neg c_71]
              have hL : mo_ce u pv t0 k ma le = 1 := by unfold mo_ce; rw [hM]; rw [if_neg c_83]
              obtain ⟨vs14, evs14⟩ : ∃ y9 : Int32, y9 = y + (-1) := ⟨_, rfl⟩
              refine lv_iinc (v := vs14) (lv' := [(8, .int vs14), (7, .int 1), (6, .int 1), (9, .int 0), (0, .ref (B 0)), (1, .int pv), (2, .int tv), (3, .long x), (5, .int bv)]) hx hb dX5_root_110 hl (k := 8) rfl (by rw [evs14]; rfl) (by decide) rfl (fun ls hl => ?_)
              refine lv_goto (tgt := 32) hx hb dX5_root_113 (by decide) ?_
              exact ih (k + 1) 1 1 vs14 u (by omega) (by rw [evs14, hxk]; exact nI_dn1) hu (ho_ma.trans (by simp only [mo_cmp]; rw [hM, hL])) H locs ls hN (lv_sub hl [4, 5, 6, 7, 8, 2, 1, 0] rfl)
            · refine lv_iload hx hb dX5_root_86 (lv_at hl 0 rfl) ?_
              refine lv_if_ne (tgt := 107) hx hb dX5_root_88 (by decide) (fun c_88 => ?_) (fun c_88 => ?_)
              · refine lv_iconst (v := 0) hx hb dX5_root_107 (by decide) ?_
                refine lv_istore (lv' := [(7, .int 0), (6, .int 1), (9, .int 0), (0, .ref (B 0)), (1, .int pv), (2, .int tv), (3, .long x), (5, .int bv), (8, .int y)]) hx hb dX5_root_108 hl (by decide) rfl (fun ls hl => ?_)
                have hM : mo_cm u pv t0 k ma le = 1 := by unfold mo_cm; rw [if_pos c_54, if_pos c_59, hpt, if_neg c_71]
                have hL : mo_ce u pv t0 k ma le = 0 := by unfold mo_ce; rw [hM]; rw [if_pos c_83, if_neg (by first | exact c_88 | decide)]
                obtain ⟨vs15, evs15⟩ : ∃ y9 : Int32, y9 = y + (-1) := ⟨_, rfl⟩
                refine lv_iinc (v := vs15) (lv' := [(8, .int vs15), (7, .int 0), (6, .int 1), (9, .int 0), (0, .ref (B 0)), (1, .int pv), (2, .int tv), (3, .long x), (5, .int bv)]) hx hb dX5_root_110 hl (k := 8) rfl (by rw [evs15]; rfl) (by decide) rfl (fun ls hl => ?_)
                refine lv_goto (tgt := 32) hx hb dX5_root_113 (by decide) ?_
                exact ih (k + 1) 1 0 vs15 u (by omega) (by rw [evs15, hxk]; exact nI_dn1) hu (ho_ma.trans (by simp only [mo_cmp]; rw [hM, hL])) H locs ls hN (lv_sub hl [4, 5, 6, 7, 8, 2, 1, 0] rfl)
              · refine lv_aload_n hx hb dX5_root_91 rfl (lv_at hl 2 rfl) ?_
                refine rr_get C hN 0 (Nat.lt_of_lt_of_le (by decide) hNN) rfl rfl kw_X5_root_X5 31 (by decide) (List.mem_of_getElem? (i := 1) rfl) (v := .ref (B 24)) rfl dX5_root_92 ?_
                refine lv_iload hx hb dX5_root_95 (lv_at hl 8 rfl) ?_
                refine rr_iald C hN 24 (Nat.lt_of_lt_of_le (by decide) hNN) rfl (by decide) (11 - k) (by omega) (by rw [hxk]; exact nI_dn (by omega)) dX5_root_97 ?_
                refine lv_iload hx hb dX5_root_98 (lv_at hl 1 rfl) ?_
                refine lv_icmp_ge (tgt := 107) hx hb dX5_root_100 (by decide) (fun c_100 => ?_) (fun c_100 => ?_)
                · refine lv_iconst (v := 0) hx hb dX5_root_107 (by decide) ?_
                  refine lv_istore (lv' := [(7, .int 0), (6, .int 1), (9, .int 0), (0, .ref (B 0)), (1, .int pv), (2, .int tv), (3, .long x), (5, .int bv), (8, .int y)]) hx hb dX5_root_108 hl (by decide) rfl (fun ls hl => ?_)
                  have hM : mo_cm u pv t0 k ma le = 1 := by unfold mo_cm; rw [if_pos c_54, if_pos c_59, hpt, if_neg c_71]
                  have hL : mo_ce u pv t0 k ma le = 0 := by unfold mo_ce; rw [hM]; rw [if_pos c_83, if_pos (by first | exact c_88 | rfl), hpt, if_pos c_100]
                  obtain ⟨vs16, evs16⟩ : ∃ y9 : Int32, y9 = y + (-1) := ⟨_, rfl⟩
                  refine lv_iinc (v := vs16) (lv' := [(8, .int vs16), (7, .int 0), (6, .int 1), (9, .int 0), (0, .ref (B 0)), (1, .int pv), (2, .int tv), (3, .long x), (5, .int bv)]) hx hb dX5_root_110 hl (k := 8) rfl (by rw [evs16]; rfl) (by decide) rfl (fun ls hl => ?_)
                  refine lv_goto (tgt := 32) hx hb dX5_root_113 (by decide) ?_
                  exact ih (k + 1) 1 0 vs16 u (by omega) (by rw [evs16, hxk]; exact nI_dn1) hu (ho_ma.trans (by simp only [mo_cmp]; rw [hM, hL])) H locs ls hN (lv_sub hl [4, 5, 6, 7, 8, 2, 1, 0] rfl)
                · refine lv_iconst (v := 1) hx hb dX5_root_103 (by decide) ?_
                  refine lv_goto (tgt := 108) hx hb dX5_root_104 (by decide) ?_
                  refine lv_istore (lv' := [(7, .int 1), (6, .int 1), (9, .int 0), (0, .ref (B 0)), (1, .int pv), (2, .int tv), (3, .long x), (5, .int bv), (8, .int y)]) hx hb dX5_root_108 hl (by decide) rfl (fun ls hl => ?_)
                  have hM : mo_cm u pv t0 k ma le = 1 := by unfold mo_cm; rw [if_pos c_54, if_pos c_59, hpt, if_neg c_71]
                  have hL : mo_ce u pv t0 k ma le = 1 := by unfold mo_ce; rw [hM]; rw [if_pos c_83, if_pos (by first | exact c_88 | rfl), hpt, if_neg c_100]
                  obtain ⟨vs17, evs17⟩ : ∃ y9 : Int32, y9 = y + (-1) := ⟨_, rfl⟩
                  refine lv_iinc (v := vs17) (lv' := [(8, .int vs17), (7, .int 1), (6, .int 1), (9, .int 0), (0, .ref (B 0)), (1, .int pv), (2, .int tv), (3, .long x), (5, .int bv)]) hx hb dX5_root_110 hl (k := 8) rfl (by rw [evs17]; rfl) (by decide) rfl (fun ls hl => ?_)
                  refine lv_goto (tgt := 32) hx hb dX5_root_113 (by decide) ?_
                  exact ih (k + 1) 1 1 vs17 u (by omega) (by rw [evs17, hxk]; exact nI_dn1) hu (ho_ma.trans (by simp only [mo_cmp]; rw [hM, hL])) H locs ls hN (lv_sub hl [4, 5, 6, 7, 8, 2, 1, 0] rfl)
    · have hk2 : 11 - k = 2 * t0 := by have h9 := c_42; rw [evs1, hxk, htv, nI_dn (by omega)] at h9; exact (nI_eq (by omega) (by omega)).mp (h9.trans (pk_mul 2 t0))
      have hpt : (if 11 - k = 2 * t0 then pv else 0) = pv := if_pos hk2
      refine lv_iload_n hx hb dX5_root_45 rfl (lv_at hl 1 rfl) ?_
      refine lv_goto (tgt := 50) hx hb dX5_root_46 (by decide) ?_
      refine lv_istore (lv' := [(9, .int pv), (0, .ref (B 0)), (1, .int pv), (2, .int tv), (3, .long x), (5, .int bv), (6, .int ma), (7, .int le), (8, .int y)]) hx hb dX5_root_50 hl (by decide) rfl (fun ls hl => ?_)
      refine lv_iload hx hb dX5_root_52 (lv_at hl 6 rfl) ?_
      refine lv_if_ne (tgt := 74) hx hb dX5_root_54 (by decide) (fun c_54 => ?_) (fun c_54 => ?_)
      · refine lv_iconst (v := 1) hx hb dX5_root_74 (by decide) ?_
        refine lv_goto (tgt := 79) hx hb dX5_root_75 (by decide) ?_
        refine lv_istore (lv' := [(6, .int 1), (9, .int pv), (0, .ref (B 0)), (1, .int pv), (2, .int tv), (3, .long x), (5, .int bv), (7, .int le), (8, .int y)]) hx hb dX5_root_79 hl (by decide) rfl (fun ls hl => ?_)
        refine lv_iload hx hb dX5_root_81 (lv_at hl 7 rfl) ?_
        refine lv_if_ne (tgt := 103) hx hb dX5_root_83 (by decide) (fun c_83 => ?_) (fun c_83 => ?_)
        · refine lv_iconst (v := 1) hx hb dX5_root_103 (by decide) ?_
          refine lv_goto (tgt := 108) hx hb dX5_root_104 (by decide) ?_
          refine lv_istore (lv' := [(7, .int 1), (6, .int 1), (9, .int pv), (0, .ref (B 0)), (1, .int pv), (2, .int tv), (3, .long x), (5, .int bv), (8, .int y)]) hx hb dX5_root_108 hl (by decide) rfl (fun ls hl => ?_)
          have hM : mo_cm u pv t0 k ma le = 1 := by unfold mo_cm; rw [if_neg c_54]
          have hL : mo_ce u pv t0 k ma le = 1 := by unfold mo_ce; rw [hM]; rw [if_neg c_83]
          obtain ⟨vs18, evs18⟩ : ∃ y9 : Int32, y9 = y + (-1) := ⟨_, rfl⟩
          refine lv_iinc (v := vs18) (lv' := [(8, .int vs18), (7, .int 1), (6, .int 1), (9, .int pv), (0, .ref (B 0)), (1, .int pv), (2, .int tv), (3, .long x), (5, .int bv)]) hx hb dX5_root_110 hl (k := 8) rfl (by rw [evs18]; rfl) (by decide) rfl (fun ls hl => ?_)
          refine lv_goto (tgt := 32) hx hb dX5_root_113 (by decide) ?_
          exact ih (k + 1) 1 1 vs18 u (by omega) (by rw [evs18, hxk]; exact nI_dn1) hu (ho_ma.trans (by simp only [mo_cmp]; rw [hM, hL])) H locs ls hN (lv_sub hl [4, 5, 6, 7, 8, 2, 1, 0] rfl)
        · refine lv_iload hx hb dX5_root_86 (lv_at hl 0 rfl) ?_
          refine lv_if_ne (tgt := 107) hx hb dX5_root_88 (by decide) (fun c_88 => ?_) (fun c_88 => ?_)
          · refine lv_iconst (v := 0) hx hb dX5_root_107 (by decide) ?_
            refine lv_istore (lv' := [(7, .int 0), (6, .int 1), (9, .int pv), (0, .ref (B 0)), (1, .int pv), (2, .int tv), (3, .long x), (5, .int bv), (8, .int y)]) hx hb dX5_root_108 hl (by decide) rfl (fun ls hl => ?_)
            have hM : mo_cm u pv t0 k ma le = 1 := by unfold mo_cm; rw [if_neg c_54]
            have hL : mo_ce u pv t0 k ma le = 0 := by unfold mo_ce; rw [hM]; rw [if_pos c_83, if_neg (by first | exact c_88 | decide)]
            obtain ⟨vs19, evs19⟩ : ∃ y9 : Int32, y9 = y + (-1) := ⟨_, rfl⟩
            refine lv_iinc (v := vs19) (lv' := [(8, .int vs19), (7, .int 0), (6, .int 1), (9, .int pv), (0, .ref (B 0)), (1, .int pv), (2, .int tv), (3, .long x), (5, .int bv)]) hx hb dX5_root_110 hl (k := 8) rfl (by rw [evs19]; rfl) (by decide) rfl (fun ls hl => ?_)
            refine lv_goto (tgt := 32) hx hb dX5_root_113 (by decide) ?_
            exact ih (k + 1) 1 0 vs19 u (by omega) (by rw [evs19, hxk]; exact nI_dn1) hu (ho_ma.trans (by simp only [mo_cmp]; rw [hM, hL])) H locs ls hN (lv_sub hl [4, 5, 6, 7, 8, 2, 1, 0] rfl)
          · refine lv_aload_n hx hb dX5_root_91 rfl (lv_at hl 2 rfl) ?_
            refine rr_get C hN 0 (Nat.lt_of_lt_of_le (by decide) hNN) rfl rfl kw_X5_root_X5 31 (by decide) (List.mem_of_getElem? (i := 1) rfl) (v := .ref (B 24)) rfl dX5_root_92 ?_
            refine lv_iload hx hb dX5_root_95 (lv_at hl 8 rfl) ?_
            refine rr_iald C hN 24 (Nat.lt_of_lt_of_le (by decide) hNN) rfl (by decide) (11 - k) (by omega) (by rw [hxk]; exact nI_dn (by omega)) dX5_root_97 ?_
            refine lv_iload hx hb dX5_root_98 (lv_at hl 1 rfl) ?_
            refine lv_icmp_ge (tgt := 107) hx hb dX5_root_100 (by decide) (fun c_100 => ?_) (fun c_100 => ?_)
            · refine lv_iconst (v := 0) hx hb dX5_root_107 (by decide) ?_
              refine lv_istore (lv' := [(7, .int 0), (6, .int 1), (9, .int pv), (0, .ref (B 0)), (1, .int pv), (2, .int tv), (3, .long x), (5, .int bv), (8, .int y)]) hx hb dX5_root_108 hl (by decide) rfl (fun ls hl => ?_)
              have hM : mo_cm u pv t0 k ma le = 1 := by unfold mo_cm; rw [if_neg c_54]
              have hL : mo_ce u pv t0 k ma le = 0 := by unfold mo_ce; rw [hM]; rw [if_pos c_83, if_pos (by first | exact c_88 | rfl), hpt, if_pos c_100]
              obtain ⟨vs20, evs20⟩ : ∃ y9 : Int32, y9 = y + (-1) := ⟨_, rfl⟩
              refine lv_iinc (v := vs20) (lv' := [(8, .int vs20), (7, .int 0), (6, .int 1), (9, .int pv), (0, .ref (B 0)), (1, .int pv), (2, .int tv), (3, .long x), (5, .int bv)]) hx hb dX5_root_110 hl (k := 8) rfl (by rw [evs20]; rfl) (by decide) rfl (fun ls hl => ?_)
              refine lv_goto (tgt := 32) hx hb dX5_root_113 (by decide) ?_
              exact ih (k + 1) 1 0 vs20 u (by omega) (by rw [evs20, hxk]; exact nI_dn1) hu (ho_ma.trans (by simp only [mo_cmp]; rw [hM, hL])) H locs ls hN (lv_sub hl [4, 5, 6, 7, 8, 2, 1, 0] rfl)
            · refine lv_iconst (v := 1) hx hb dX5_root_103 (by decide) ?_
              refine lv_goto (tgt := 108) hx hb dX5_root_104 (by decide) ?_
              refine lv_istore (lv' := [(7, .int 1), (6, .int 1), (9, .int pv), (0, .ref (B 0)), (1, .int pv), (2, .int tv), (3, .long x), (5, .int bv), (8, .int y)]) hx hb dX5_root_108 hl (by decide) rfl (fun ls hl => ?_)
              have hM : mo_cm u pv t0 k ma le = 1 := by unfold mo_cm; rw [if_neg c_54]
              have hL : mo_ce u pv t0 k ma le = 1 := by unfold mo_ce; rw [hM]; rw [if_pos c_83, if_pos (by first | exact c_88 | rfl), hpt, if_neg c_100]
              obtain ⟨vs21, evs21⟩ : ∃ y9 : Int32, y9 = y + (-1) := ⟨_, rfl⟩
              refine lv_iinc (v := vs21) (lv' := [(8, .int vs21), (7, .int 1), (6, .int 1), (9, .int pv), (0, .ref (B 0)), (1, .int pv), (2, .int tv), (3, .long x), (5, .int bv)]) hx hb dX5_root_110 hl (k := 8) rfl (by rw [evs21]; rfl) (by decide) rfl (fun ls hl => ?_)
              refine lv_goto (tgt := 32) hx hb dX5_root_113 (by decide) ?_
              exact ih (k + 1) 1 1 vs21 u (by omega) (by rw [evs21, hxk]; exact nI_dn1) hu (ho_ma.trans (by simp only [mo_cmp]; rw [hM, hL])) H locs ls hN (lv_sub hl [4, 5, 6, 7, 8, 2, 1, 0] rfl)
      · refine lv_iload hx hb dX5_root_57 (lv_at hl 7 rfl) ?_
        refine lv_if_ne (tgt := 78) hx hb dX5_root_59 (by decide) (fun c_59 => ?_) (fun c_59 => ?_)
        · refine lv_iconst (v := 0) hx hb dX5_root_78 (by decide) ?_
          refine lv_istore (lv' := [(6, .int 0), (9, .int pv), (0, .ref (B 0)), (1, .int pv), (2, .int tv), (3, .long x), (5, .int bv), (7, .int le), (8, .int y)]) hx hb dX5_root_79 hl (by decide) rfl (fun ls hl => ?_)
          refine lv_iload hx hb dX5_root_81 (lv_at hl 7 rfl) ?_
          refine lv_if_ne (tgt := 103) hx hb dX5_root_83 (by decide) (fun c_83 => ?_) (fun c_83 => ?_)
          · refine lv_iconst (v := 1) hx hb dX5_root_103 (by decide) ?_
            refine lv_goto (tgt := 108) hx hb dX5_root_104 (by decide) ?_
            refine lv_istore (lv' := [(7, .int 1), (6, .int 0), (9, .int pv), (0, .ref (B 0)), (1, .int pv), (2, .int tv), (3, .long x), (5, .int bv), (8, .int y)]) hx hb dX5_root_108 hl (by decide) rfl (fun ls hl => ?_)
            have hM : mo_cm u pv t0 k ma le = 0 := by unfold mo_cm; rw [if_pos c_54, if_neg c_59]
            have hL : mo_ce u pv t0 k ma le = 1 := by unfold mo_ce; rw [hM]; rw [if_neg c_83]
            obtain ⟨vs22, evs22⟩ : ∃ y9 : Int32, y9 = y + (-1) := ⟨_, rfl⟩
            refine lv_iinc (v := vs22) (lv' := [(8, .int vs22), (7, .int 1), (6, .int 0), (9, .int pv), (0, .ref (B 0)), (1, .int pv), (2, .int tv), (3, .long x), (5, .int bv)]) hx hb dX5_root_110 hl (k := 8) rfl (by rw [evs22]; rfl) (by decide) rfl (fun ls hl => ?_)
            refine lv_goto (tgt := 32) hx hb dX5_root_113 (by decide) ?_
            exact ih (k + 1) 0 1 vs22 u (by omega) (by rw [evs22, hxk]; exact nI_dn1) hu (ho_ma.trans (by simp only [mo_cmp]; rw [hM, hL])) H locs ls hN (lv_sub hl [4, 5, 6, 7, 8, 2, 1, 0] rfl)
          · refine lv_iload hx hb dX5_root_86 (lv_at hl 0 rfl) ?_
            refine lv_if_ne (tgt := 107) hx hb dX5_root_88 (by decide) (fun c_88 => ?_) (fun c_88 => ?_)
            · refine lv_iconst (v := 0) hx hb dX5_root_107 (by decide) ?_
              refine lv_istore (lv' := [(7, .int 0), (6, .int 0), (9, .int pv), (0, .ref (B 0)), (1, .int pv), (2, .int tv), (3, .long x), (5, .int bv), (8, .int y)]) hx hb dX5_root_108 hl (by decide) rfl (fun ls hl => ?_)
              have hM : mo_cm u pv t0 k ma le = 0 := by unfold mo_cm; rw [if_pos c_54, if_neg c_59]
              have hL : mo_ce u pv t0 k ma le = 0 := by unfold mo_ce; rw [hM]; rw [if_pos c_83, if_neg (by first | exact c_88 | decide)]
              obtain ⟨vs23, evs23⟩ : ∃ y9 : Int32, y9 = y + (-1) := ⟨_, rfl⟩
              refine lv_iinc (v := vs23) (lv' := [(8, .int vs23), (7, .int 0), (6, .int 0), (9, .int pv), (0, .ref (B 0)), (1, .int pv), (2, .int tv), (3, .long x), (5, .int bv)]) hx hb dX5_root_110 hl (k := 8) rfl (by rw [evs23]; rfl) (by decide) rfl (fun ls hl => ?_)
              refine lv_goto (tgt := 32) hx hb dX5_root_113 (by decide) ?_
              exact ih (k + 1) 0 0 vs23 u (by omega) (by rw [evs23, hxk]; exact nI_dn1) hu (ho_ma.trans (by simp only [mo_cmp]; rw [hM, hL])) H locs ls hN (lv_sub hl [4, 5, 6, 7, 8, 2, 1, 0] rfl)
            · refine lv_aload_n hx hb dX5_root_91 rfl (lv_at hl 2 rfl) ?_
              refine rr_get C hN 0 (Nat.lt_of_lt_of_le (by decide) hNN) rfl rfl kw_X5_root_X5 31 (by decide) (List.mem_of_getElem? (i := 1) rfl) (v := .ref (B 24)) rfl dX5_root_92 ?_
              refine lv_iload hx hb dX5_root_95 (lv_at hl 8 rfl) ?_
              refine rr_iald C hN 24 (Nat.lt_of_lt_of_le (by decide) hNN) rfl (by decide) (11 - k) (by omega) (by rw [hxk]; exact nI_dn (by omega)) dX5_root_97 ?_
              refine lv_iload hx hb dX5_root_98 (lv_at hl 1 rfl) ?_
              refine lv_icmp_ge (tgt := 107) hx hb dX5_root_100 (by decide) (fun c_100 => ?_) (fun c_100 => ?_)
              · refine lv_iconst (v := 0) hx hb dX5_root_107 (by decide) ?_
                refine lv_istore (lv' := [(7, .int 0), (6, .int 0), (9, .int pv), (0, .ref (B 0)), (1, .int pv), (2, .int tv), (3, .long x), (5, .int bv), (8, .int y)]) hx hb dX5_root_108 hl (by decide) rfl (fun ls hl => ?_)
                have hM : mo_cm u pv t0 k ma le = 0 := by unfold mo_cm; rw [if_pos c_54, if_neg c_59]
                have hL : mo_ce u pv t0 k ma le = 0 := by unfold mo_ce; rw [hM]; rw [if_pos c_83, if_pos (by first | exact c_88 | rfl), hpt, if_pos c_100]
                obtain ⟨vs24, evs24⟩ : ∃ y9 : Int32, y9 = y + (-1) := ⟨_, rfl⟩
                refine lv_iinc (v := vs24) (lv' := [(8, .int vs24), (7, .int 0), (6, .int 0), (9, .int pv), (0, .ref (B 0)), (1, .int pv), (2, .int tv), (3, .long x), (5, .int bv)]) hx hb dX5_root_110 hl (k := 8) rfl (by rw [evs24]; rfl) (by decide) rfl (fun ls hl => ?_)
                refine lv_goto (tgt := 32) hx hb dX5_root_113 (by decide) ?_
                exact ih (k + 1) 0 0 vs24 u (by omega) (by rw [evs24, hxk]; exact nI_dn1) hu (ho_ma.trans (by simp only [mo_cmp]; rw [hM, hL])) H locs ls hN (lv_sub hl [4, 5, 6, 7, 8, 2, 1, 0] rfl)
              · refine lv_iconst (v := 1) hx hb dX5_root_103 (by decide) ?_
                refine lv_goto (tgt := 108) hx hb dX5_root_104 (by decide) ?_
                refine lv_istore (lv' := [(7, .int 1), (6, .int 0), (9, .int pv), (0, .ref (B 0)), (1, .int pv), (2, .int tv), (3, .long x), (5, .int bv), (8, .int y)]) hx hb dX5_root_108 hl (by decide) rfl (fun ls hl => ?_)
                have hM : mo_cm u pv t0 k ma le = 0 := by unfold mo_cm; rw [if_pos c_54, if_neg c_59]
                have hL : mo_ce u pv t0 k ma le = 1 := by unfold mo_ce; rw [hM]; rw [if_pos c_83, if_pos (by first | exact c_88 | rfl), hpt, if_neg c_100]
                obtain ⟨vs25, evs25⟩ : ∃ y9 : Int32, y9 = y + (-1) := ⟨_, rfl⟩
                refine lv_iinc (v := vs25) (lv' := [(8, .int vs25), (7, .int 1), (6, .int 0), (9, .int pv), (0, .ref (B 0)), (1, .int pv), (2, .int tv), (3, .long x), (5, .int bv)]) hx hb dX5_root_110 hl (k := 8) rfl (by rw [evs25]; rfl) (by decide) rfl (fun ls hl => ?_)
                refine lv_goto (tgt := 32) hx hb dX5_root_113 (by decide) ?_
                exact ih (k + 1) 0 1 vs25 u (by omega) (by rw [evs25, hxk]; exact nI_dn1) hu (ho_ma.trans (by simp only [mo_cmp]; rw [hM, hL])) H locs ls hN (lv_sub hl [4, 5, 6, 7, 8, 2, 1, 0] rfl)
        · refine lv_aload_n hx hb dX5_root_62 rfl (lv_at hl 1 rfl) ?_
          refine rr_get C hN 0 (Nat.lt_of_lt_of_le (by decide) hNN) rfl rfl kw_X5_root_X5 31 (by decide) (List.mem_of_getElem? (i := 1) rfl) (v := .ref (B 24)) rfl dX5_root_63 ?_
          refine lv_iload hx hb dX5_root_66 (lv_at hl 8 rfl) ?_
          refine rr_iald C hN 24 (Nat.lt_of_lt_of_le (by decide) hNN) rfl (by decide) (11 - k) (by omega) (by rw [hxk]; exact nI_dn (by omega)) dX5_root_68 ?_
          refine lv_iload hx hb dX5_root_69 (lv_at hl 0 rfl) ?_
          refine lv_icmp_le (tgt := 78) hx hb dX5_root_71 (by decide) (fun c_71 => ?_) (fun c_71 => ?_)
          · refine lv_iconst (v := 0) hx hb dX5_root_78 (by decide) ?_
            refine lv_istore (lv' := [(6, .int 0), (9, .int pv), (0, .ref (B 0)), (1, .int pv), (2, .int tv), (3, .long x), (5, .int bv), (7, .int le), (8, .int y)]) hx hb dX5_root_79 hl (by decide) rfl (fun ls hl => ?_)
            refine lv_iload hx hb dX5_root_81 (lv_at hl 7 rfl) ?_
            refine lv_if_ne (tgt := 103) hx hb dX5_root_83 (by decide) (fun c_83 => ?_) (fun c_83 => ?_)
            · refine lv_iconst (v := 1) hx hb dX5_root_103 (by decide) ?_
              refine lv_goto (tgt := 108) hx hb dX5_root_104 (by decide) ?_
              refine lv_istore (lv' := [(7, .int 1), (6, .int 0), (9, .int pv), (0, .ref (B 0)), (1, .int pv), (2, .int tv), (3, .long x), (5, .int bv), (8, .int y)]) hx hb dX5_root_108 hl (by decide) rfl (fun ls hl => ?_)
              have hM : mo_cm u pv t0 k ma le = 0 := by unfold mo_cm; rw [if_pos c_54, if_pos c_59, hpt, if_pos c_71]
              have hL : mo_ce u pv t0 k ma le = 1 := by unfold mo_ce; rw [hM]; rw [if_neg c_83]
              obtain ⟨vs26, evs26⟩ : ∃ y9 : Int32, y9 = y + (-1) := ⟨_, rfl⟩
              refine lv_iinc (v := vs26) (lv' := [(8, .int vs26), (7, .int 1), (6, .int 0), (9, .int pv), (0, .ref (B 0)), (1, .int pv), (2, .int tv), (3, .long x), (5, .int bv)]) hx hb dX5_root_110 hl (k := 8) rfl (by rw [evs26]; rfl) (by decide) rfl (fun ls hl => ?_)
              refine lv_goto (tgt := 32) hx hb dX5_root_113 (by decide) ?_
              exact ih (k + 1) 0 1 vs26 u (by omega) (by rw [evs26, hxk]; exact nI_dn1) hu (ho_ma.trans (by simp only [mo_cmp]; rw [hM, hL])) H locs ls hN (lv_sub hl [4, 5, 6, 7, 8, 2, 1, 0] rfl)
            · refine lv_iload hx hb dX5_root_86 (lv_at hl 0 rfl) ?_
              refine lv_if_ne (tgt := 107) hx hb dX5_root_88 (by decide) (fun c_88 => ?_) (fun c_88 => ?_)
              · refine lv_iconst (v := 0) hx hb dX5_root_107 (by decide) ?_
                refine lv_istore (lv' := [(7, .int 0), (6, .int 0), (9, .int pv), (0, .ref (B 0)), (1, .int pv), (2, .int tv), (3, .long x), (5, .int bv), (8, .int y)]) hx hb dX5_root_108 hl (by decide) rfl (fun ls hl => ?_)
                have hM : mo_cm u pv t0 k ma le = 0 := by unfold mo_cm; rw [if_pos c_54, if_pos c_59, hpt, if_pos c_71]
                have hL : mo_ce u pv t0 k ma le = 0 := by unfold mo_ce; rw [hM]; rw [if_pos c_83, if_neg (by first | exact c_88 | decide)]
                obtain ⟨vs27, evs27⟩ : ∃ y9 : Int32, y9 = y + (-1) := ⟨_, rfl⟩
                refine lv_iinc (v := vs27) (lv' := [(8, .int vs27), (7, .int 0), (6, .int 0), (9, .int pv), (0, .ref (B 0)), (1, .int pv), (2, .int tv), (3, .long x), (5, .int bv)]) hx hb dX5_root_110 hl (k := 8) rfl (by rw [evs27]; rfl) (by decide) rfl (fun ls hl => ?_)
                refine lv_goto (tgt := 32) hx hb dX5_root_113 (by decide) ?_
                exact ih (k + 1) 0 0 vs27 u (by omega) (by rw [evs27, hxk]; exact nI_dn1) hu (ho_ma.trans (by simp only [mo_cmp]; rw [hM, hL])) H locs ls hN (lv_sub hl [4, 5, 6, 7, 8, 2, 1, 0] rfl)
              · refine lv_aload_n hx hb dX5_root_91 rfl (lv_at hl 2 rfl) ?_
                refine rr_get C hN 0 (Nat.lt_of_lt_of_le (by decide) hNN) rfl rfl kw_X5_root_X5 31 (by decide) (List.mem_of_getElem? (i := 1) rfl) (v := .ref (B 24)) rfl dX5_root_92 ?_
                refine lv_iload hx hb dX5_root_95 (lv_at hl 8 rfl) ?_
                refine rr_iald C hN 24 (Nat.lt_of_lt_of_le (by decide) hNN) rfl (by decide) (11 - k) (by omega) (by rw [hxk]; exact nI_dn (by omega)) dX5_root_97 ?_
                refine lv_iload hx hb dX5_root_98 (lv_at hl 1 rfl) ?_
                refine lv_icmp_ge (tgt := 107) hx hb dX5_root_100 (by decide) (fun c_100 => ?_) (fun c_100 => ?_)
                · refine lv_iconst (v := 0) hx hb dX5_root_107 (by decide) ?_
                  refine lv_istore (lv' := [(7, .int 0), (6, .int 0), (9, .int pv), (0, .ref (B 0)), (1, .int pv), (2, .int tv), (3, .long x), (5, .int bv), (8, .int y)]) hx hb dX5_root_108 hl (by decide) rfl (fun ls hl => ?_)
                  have hM : mo_cm u pv t0 k ma le = 0 := by unfold mo_cm; rw [if_pos c_54, if_pos c_59, hpt, if_pos c_71]
                  have hL : mo_ce u pv t0 k ma le = 0 := by unfold mo_ce; rw [hM]; rw [if_pos c_83, if_pos (by first | exact c_88 | rfl), hpt, if_pos c_100]
                  obtain ⟨vs28, evs28⟩ : ∃ y9 : Int32, y9 = y + (-1) := ⟨_, rfl⟩
                  refine lv_iinc (v := vs28) (lv' := [(8, .int vs28), (7, .int 0), (6, .int 0), (9, .int pv), (0, .ref (B 0)), (1, .int pv), (2, .int tv), (3, .long x), (5, .int bv)]) hx hb dX5_root_110 hl (k := 8) rfl (by rw [evs28]; rfl) (by decide) rfl (fun ls hl => ?_)
                  refine lv_goto (tgt := 32) hx hb dX5_root_113 (by decide) ?_
                  exact ih (k + 1) 0 0 vs28 u (by omega) (by rw [evs28, hxk]; exact nI_dn1) hu (ho_ma.trans (by simp only [mo_cmp]; rw [hM, hL])) H locs ls hN (lv_sub hl [4, 5, 6, 7, 8, 2, 1, 0] rfl)
                · refine lv_iconst (v := 1) hx hb dX5_root_103 (by decide) ?_
                  refine lv_goto (tgt := 108) hx hb dX5_root_104 (by decide) ?_
                  refine lv_istore (lv' := [(7, .int 1), (6, .int 0), (9, .int pv), (0, .ref (B 0)), (1, .int pv), (2, .int tv), (3, .long x), (5, .int bv), (8, .int y)]) hx hb dX5_root_108 hl (by decide) rfl (fun ls hl => ?_)
                  have hM : mo_cm u pv t0 k ma le = 0 := by unfold mo_cm; rw [if_pos c_54, if_pos c_59, hpt, if_pos c_71]
                  have hL : mo_ce u pv t0 k ma le = 1 := by unfold mo_ce; rw [hM]; rw [if_pos c_83, if_pos (by first | exact c_88 | rfl), hpt, if_neg c_100]
                  obtain ⟨vs29, evs29⟩ : ∃ y9 : Int32, y9 = y + (-1) := ⟨_, rfl⟩
                  refine lv_iinc (v := vs29) (lv' := [(8, .int vs29), (7, .int 1), (6, .int 0), (9, .int pv), (0, .ref (B 0)), (1, .int pv), (2, .int tv), (3, .long x), (5, .int bv)]) hx hb dX5_root_110 hl (k := 8) rfl (by rw [evs29]; rfl) (by decide) rfl (fun ls hl => ?_)
                  refine lv_goto (tgt := 32) hx hb dX5_root_113 (by decide) ?_
                  exact ih (k + 1) 0 1 vs29 u (by omega) (by rw [evs29, hxk]; exact nI_dn1) hu (ho_ma.trans (by simp only [mo_cmp]; rw [hM, hL])) H locs ls hN (lv_sub hl [4, 5, 6, 7, 8, 2, 1, 0] rfl)
          · refine lv_iconst (v := 1) hx hb dX5_root_74 (by decide) ?_
            refine lv_goto (tgt := 79) hx hb dX5_root_75 (by decide) ?_
            refine lv_istore (lv' := [(6, .int 1), (9, .int pv), (0, .ref (B 0)), (1, .int pv), (2, .int tv), (3, .long x), (5, .int bv), (7, .int le), (8, .int y)]) hx hb dX5_root_79 hl (by decide) rfl (fun ls hl => ?_)
            refine lv_iload hx hb dX5_root_81 (lv_at hl 7 rfl) ?_
            refine lv_if_ne (tgt := 103) hx hb dX5_root_83 (by decide) (fun c_83 => ?_) (fun c_83 => ?_)
            · refine lv_iconst (v := 1) hx hb dX5_root_103 (by decide) ?_
              refine lv_goto (tgt := 108) hx hb dX5_root_104 (by decide) ?_
              refine lv_istore (lv' := [(7, .int 1), (6, .int 1), (9, .int pv), (0, .ref (B 0)), (1, .int pv), (2, .int tv), (3, .long x), (5, .int bv), (8, .int y)]) hx hb dX5_root_108 hl (by decide) rfl (fun ls hl => ?_)
              have hM : mo_cm u pv t0 k ma le = 1 := by unfold mo_cm; rw [if_pos c_54, if_pos c_59, hpt, if_neg c_71]
              have hL : mo_ce u pv t0 k ma le = 1 := by unfold mo_ce; rw [hM]; rw [if_neg c_83]
              obtain ⟨vs30, evs30⟩ : ∃ y9 : Int32, y9 = y + (-1) := ⟨_, rfl⟩
              refine lv_iinc (v := vs30) (lv' := [(8, .int vs30), (7, .int 1), (6, .int 1), (9, .int pv), (0, .ref (B 0)), (1, .int pv), (2, .int tv), (3, .long x), (5, .int bv)]) hx hb dX5_root_110 hl (k := 8) rfl (by rw [evs30]; rfl) (by decide) rfl (fun ls hl => ?_)
              refine lv_goto (tgt := 32) hx hb dX5_root_113 (by decide) ?_
              exact ih (k + 1) 1 1 vs30 u (by omega) (by rw [evs30, hxk]; exact nI_dn1) hu (ho_ma.trans (by simp only [mo_cmp]; rw [hM, hL])) H locs ls hN (lv_sub hl [4, 5, 6, 7, 8, 2, 1, 0] rfl)
            · refine lv_iload hx hb dX5_root_86 (lv_at hl 0 rfl) ?_
              refine lv_if_ne (tgt := 107) hx hb dX5_root_88 (by decide) (fun c_88 => ?_) (fun c_88 => ?_)
              · refine lv_iconst (v := 0) hx hb dX5_root_107 (by decide) ?_
                refine lv_istore (lv' := [(7, .int 0), (6, .int 1), (9, .int pv), (0, .ref (B 0)), (1, .int pv), (2, .int tv), (3, .long x), (5, .int bv), (8, .int y)]) hx hb dX5_root_108 hl (by decide) rfl (fun ls hl => ?_)
                have hM : mo_cm u pv t0 k ma le = 1 := by unfold mo_cm; rw [if_pos c_54, if_pos c_59, hpt, if_neg c_71]
                have hL : mo_ce u pv t0 k ma le = 0 := by unfold mo_ce; rw [hM]; rw [if_pos c_83, if_neg (by first | exact c_88 | decide)]
                obtain ⟨vs31, evs31⟩ : ∃ y9 : Int32, y9 = y + (-1) := ⟨_, rfl⟩
                refine lv_iinc (v := vs31) (lv' := [(8, .int vs31), (7, .int 0), (6, .int 1), (9, .int pv), (0, .ref (B 0)), (1, .int pv), (2, .int tv), (3, .long x), (5, .int bv)]) hx hb dX5_root_110 hl (k := 8) rfl (by rw [evs31]; rfl) (by decide) rfl (fun ls hl => ?_)
                refine lv_goto (tgt := 32) hx hb dX5_root_113 (by decide) ?_
                exact ih (k + 1) 1 0 vs31 u (by omega) (by rw [evs31, hxk]; exact nI_dn1) hu (ho_ma.trans (by simp only [mo_cmp]; rw [hM, hL])) H locs ls hN (lv_sub hl [4, 5, 6, 7, 8, 2, 1, 0] rfl)
              · refine lv_aload_n hx hb dX5_root_91 rfl (lv_at hl 2 rfl) ?_
                refine rr_get C hN 0 (Nat.lt_of_lt_of_le (by decide) hNN) rfl rfl kw_X5_root_X5 31 (by decide) (List.mem_of_getElem? (i := 1) rfl) (v := .ref (B 24)) rfl dX5_root_92 ?_
                refine lv_iload hx hb dX5_root_95 (lv_at hl 8 rfl) ?_
                refine rr_iald C hN 24 (Nat.lt_of_lt_of_le (by decide) hNN) rfl (by decide) (11 - k) (by omega) (by rw [hxk]; exact nI_dn (by omega)) dX5_root_97 ?_
                refine lv_iload hx hb dX5_root_98 (lv_at hl 1 rfl) ?_
                refine lv_icmp_ge (tgt := 107) hx hb dX5_root_100 (by decide) (fun c_100 => ?_) (fun c_100 => ?_)
                · refine lv_iconst (v := 0) hx hb dX5_root_107 (by decide) ?_
                  refine lv_istore (lv' := [(7, .int 0), (6, .int 1), (9, .int pv), (0, .ref (B 0)), (1, .int pv), (2, .int tv), (3, .long x), (5, .int bv), (8, .int y)]) hx hb dX5_root_108 hl (by decide) rfl (fun ls hl => ?_)
                  have hM : mo_cm u pv t0 k ma le = 1 := by unfold mo_cm; rw [if_pos c_54, if_pos c_59, hpt, if_neg c_71]
                  have hL : mo_ce u pv t0 k ma le = 0 := by unfold mo_ce; rw [hM]; rw [if_pos c_83, if_pos (by first | exact c_88 | rfl), hpt, if_pos c_100]
                  obtain ⟨vs32, evs32⟩ : ∃ y9 : Int32, y9 = y + (-1) := ⟨_, rfl⟩
                  refine lv_iinc (v := vs32) (lv' := [(8, .int vs32), (7, .int 0), (6, .int 1), (9, .int pv), (0, .ref (B 0)), (1, .int pv), (2, .int tv), (3, .long x), (5, .int bv)]) hx hb dX5_root_110 hl (k := 8) rfl (by rw [evs32]; rfl) (by decide) rfl (fun ls hl => ?_)
                  refine lv_goto (tgt := 32) hx hb dX5_root_113 (by decide) ?_
                  exact ih (k + 1) 1 0 vs32 u (by omega) (by rw [evs32, hxk]; exact nI_dn1) hu (ho_ma.trans (by simp only [mo_cmp]; rw [hM, hL])) H locs ls hN (lv_sub hl [4, 5, 6, 7, 8, 2, 1, 0] rfl)
                · refine lv_iconst (v := 1) hx hb dX5_root_103 (by decide) ?_
                  refine lv_goto (tgt := 108) hx hb dX5_root_104 (by decide) ?_
                  refine lv_istore (lv' := [(7, .int 1), (6, .int 1), (9, .int pv), (0, .ref (B 0)), (1, .int pv), (2, .int tv), (3, .long x), (5, .int bv), (8, .int y)]) hx hb dX5_root_108 hl (by decide) rfl (fun ls hl => ?_)
                  have hM : mo_cm u pv t0 k ma le = 1 := by unfold mo_cm; rw [if_pos c_54, if_pos c_59, hpt, if_neg c_71]
                  have hL : mo_ce u pv t0 k ma le = 1 := by unfold mo_ce; rw [hM]; rw [if_pos c_83, if_pos (by first | exact c_88 | rfl), hpt, if_neg c_100]
                  obtain ⟨vs33, evs33⟩ : ∃ y9 : Int32, y9 = y + (-1) := ⟨_, rfl⟩
                  refine lv_iinc (v := vs33) (lv' := [(8, .int vs33), (7, .int 1), (6, .int 1), (9, .int pv), (0, .ref (B 0)), (1, .int pv), (2, .int tv), (3, .long x), (5, .int bv)]) hx hb dX5_root_110 hl (k := 8) rfl (by rw [evs33]; rfl) (by decide) rfl (fun ls hl => ?_)
                  refine lv_goto (tgt := 32) hx hb dX5_root_113 (by decide) ?_
                  exact ih (k + 1) 1 1 vs33 u (by omega) (by rw [evs33, hxk]; exact nI_dn1) hu (ho_ma.trans (by simp only [mo_cmp]; rw [hM, hL])) H locs ls hN (lv_sub hl [4, 5, 6, 7, 8, 2, 1, 0] rfl)
set_option maxHeartbeats 4000000 in
set_option maxRecDepth 100000 in
theorem lp_X5_rt1 {p : Program} {l : Launch} {e : Env} {s : State} {m : MethodId} {args : Array Value} {below : List Frame} {meth : Method} {c : Code} {D : va_G} {ca : Nat → ClassId} {B : Nat → Nat} {N n : Nat} {X : va_W} (C : ww_C D ca yX5_root.cls cX5_root 10 wsX5_root (some .long) (ww_A B N X s.heap.size) p s m args meth c) (hNN : 29 ≤ N) (pv tv : Int32) {t0 : Nat} (ht0 : t0 ≤ 3) (htv : tv = nI t0) {r : Option Value} {u' : ww_U} : ∀ (d k : Nat) (x : Int64) (y : Int32) (u : ww_U), k + d = 38 → y = nI 37 - nI k → r = some (.long (mo_rt d k pv t0 x u).2) → u' = (mo_rt d k pv t0 x u).1 → ∀ (H : Heap) (locs : List Loc) (ls : Array Slot), ww_N D ca B N n u X (ww_A B N X s.heap.size) s.heap H locs → lv_has ls 10 [(0, .ref (B 0)), (1, .int pv), (2, .int tv), (3, .long x), (5, .int y)] → W p l e (headSpec wsX5_root ({ frames := 1, cells := 0, slots := 0, locals := 28 } : Room)).room s m args below meth c H locs 0 0 (MQ below (ww_Q D ca B N n X s.heap.size r u') args s 0 0 (ww_A B N X s.heap.size)) (F0 m 6 ls []) := by
  have hx := C.1.1
  have hb := C.1.2.1
  intro d
  induction d with
  | zero =>
    intro k x y u hkd hxk hr hu H locs ls hN hl
    refine lv_iload hx hb dX5_root_6 (lv_at hl 4 rfl) ?_
    refine lv_if_lt (tgt := 138) hx hb dX5_root_8 (by decide) (fun c_8 => ?_) (fun c_8 => absurd c_8 (fun h => h (by rw [hxk, show k = 38 by omega]; decide)))
    refine lv_lload_n hx hb dX5_root_138 rfl (lv_at hl 3 rfl) ?_
    exact rr_lret C hN dX5_root_139 hr hu
  | succ d ih =>
    intro k x y u hkd hxk hr hu H locs ls hN hl
    refine lv_iload hx hb dX5_root_6 (lv_at hl 4 rfl) ?_
    refine lv_if_lt (tgt := 138) hx hb dX5_root_8 (by decide) (fun c_8 => absurd c_8 (by rw [hxk, nI_dn (by omega)]; exact nI_pos (by omega))) (fun c_8 => ?_)
    refine lv_aload_n hx hb dX5_root_11 rfl (lv_at hl 0 rfl) ?_
    refine lv_lload_n hx hb dX5_root_12 rfl (lv_at hl 3 rfl) ?_
    refine lv_lconst (v := 1) hx hb dX5_root_13 (by decide) ?_
    refine lv_iload hx hb dX5_root_14 (lv_at hl 4 rfl) ?_
    refine lv_lshl hx hb dX5_root_16 rfl ?_
    refine lv_topl (fun vs1 evs1 => ?_)
    refine lv_lor hx hb dX5_root_17 ?_
    refine lv_topl (fun vs2 evs2 => ?_)
    have hTR : vs2 = mo_try x k := by rw [evs2, evs1, hxk, nI_dn (by omega)]; rfl
    refine lv_iload_n hx hb dX5_root_18 rfl (lv_at hl 2 rfl) ?_
    refine rr_callV0 (As := [.long vs2, .int tv]) C hN 0 (Nat.lt_of_lt_of_le (by decide) hNN) rfl rfl rfl (ct_X5_raise l vs2 ht0 htv hNN) gX5_root_X5_raise rfl rfl rfl 2 (by decide +kernel) ⟨Nat.le_of_ble_eq_true rfl, Nat.le_of_ble_eq_true rfl⟩ rfl hl.1 rfl (Nat.le_of_ble_eq_true rfl) ⟨Nat.zero_le _, Nat.zero_le _⟩ dX5_root_19 (fun H locs hN => ?_)
    obtain ⟨us3, eus3⟩ : ∃ y : ww_U, y = mo_raise vs2 t0 u := ⟨_, rfl⟩
    rw [← eus3] at hN
    refine lv_iconst (v := 0) hx hb dX5_root_22 (by decide) ?_
    refine lv_istore (lv' := [(6, .int 0), (0, .ref (B 0)), (1, .int pv), (2, .int tv), (3, .long x), (5, .int y)]) hx hb dX5_root_23 hl (by decide) rfl (fun ls hl => ?_)
    refine lv_iconst (v := 0) hx hb dX5_root_25 (by decide) ?_
    refine lv_istore (lv' := [(7, .int 0), (6, .int 0), (0, .ref (B 0)), (1, .int pv), (2, .int tv), (3, .long x), (5, .int y)]) hx hb dX5_root_26 hl (by decide) rfl (fun ls hl => ?_)
    refine lv_bipush (v := 11) hx hb dX5_root_28 (by decide) ?_
    refine lv_istore (lv' := [(8, .int 11), (7, .int 0), (6, .int 0), (0, .ref (B 0)), (1, .int pv), (2, .int tv), (3, .long x), (5, .int y)]) hx hb dX5_root_30 hl (by decide) rfl (fun ls hl => ?_)
    obtain ⟨vs5, evs5⟩ : ∃ y9 : Int32, y9 = mo_cmp 12 0 us3 pv t0 0 0 := ⟨_, rfl⟩
    refine lp_X5_rt2 C hNN pv tv x y ht0 htv (uf := us3) (maf := vs5) (fun H locs ls hN hl => ?_) 12 0 0 0 11 us3 (by omega) (by decide) rfl evs5 _ _ _ hN (lv_sub hl [3, 4, 5, 6, 7, 2, 1, 0] rfl)
    obtain ⟨us4, eus4⟩ : ∃ y9 : ww_U, y9 = us3 := ⟨_, rfl⟩
    rw [← eus4] at hN
    refine lv_iload hx hb dX5_root_116 (lv_at hl 5 rfl) ?_
    refine lv_if_eq (tgt := 125) hx hb dX5_root_118 (by decide) (fun c_118 => ?_) (fun c_118 => ?_)
    · refine lv_lload_n hx hb dX5_root_125 rfl (lv_at hl 3 rfl) ?_
      refine lv_lconst (v := 1) hx hb dX5_root_126 (by decide) ?_
      refine lv_iload hx hb dX5_root_127 (lv_at hl 4 rfl) ?_
      refine lv_lshl hx hb dX5_root_129 rfl ?_
      refine lv_topl (fun vs6 evs6 => ?_)
      refine lv_lor hx hb dX5_root_130 ?_
      refine lv_topl (fun vs7 evs7 => ?_)
      have hX2 : vs7 = vs2 := by rw [evs7, evs6, evs2, evs1]
      refine lv_lstore_n (lv' := [(3, .long vs7), (0, .ref (B 0)), (1, .int pv), (2, .int tv), (5, .int y), (6, .int vs5)]) hx hb dX5_root_131 rfl hl (by decide) rfl (fun ls hl => ?_)
      obtain ⟨vs8, evs8⟩ : ∃ y9 : Int32, y9 = y + (-1) := ⟨_, rfl⟩
      refine lv_iinc (v := vs8) (lv' := [(5, .int vs8), (3, .long vs7), (0, .ref (B 0)), (1, .int pv), (2, .int tv), (6, .int vs5)]) hx hb dX5_root_132 hl (k := 4) rfl (by rw [evs8]; rfl) (by decide) rfl (fun ls hl => ?_)
      refine lv_goto (tgt := 6) hx hb dX5_root_135 (by decide) ?_
      exact ih (k + 1) vs7 vs8 us4 (by omega) (by rw [evs8, hxk]; exact nI_dn1) (hr.trans (by simp only [mo_rt]; rw [if_pos (by rw [← hTR, ← eus3, ← evs5]; exact c_118), ← hTR, ← eus3, ← eus4, hX2])) (hu.trans (by simp only [mo_rt]; rw [if_pos (by rw [← hTR, ← eus3, ← evs5]; exact c_118), ← hTR, ← eus3, ← eus4, hX2])) H locs ls hN (lv_sub hl [2, 3, 4, 1, 0] rfl)
    · refine lv_lload_n hx hb dX5_root_121 rfl (lv_at hl 3 rfl) ?_
      refine lv_goto (tgt := 131) hx hb dX5_root_122 (by decide) ?_
      refine lv_lstore_n (lv' := [(3, .long x), (0, .ref (B 0)), (1, .int pv), (2, .int tv), (5, .int y), (6, .int vs5)]) hx hb dX5_root_131 rfl hl (by decide) rfl (fun ls hl => ?_)
      obtain ⟨vs9, evs9⟩ : ∃ y9 : Int32, y9 = y + (-1) := ⟨_, rfl⟩
      refine lv_iinc (v := vs9) (lv' := [(5, .int vs9), (3, .long x), (0, .ref (B 0)), (1, .int pv), (2, .int tv), (6, .int vs5)]) hx hb dX5_root_132 hl (k := 4) rfl (by rw [evs9]; rfl) (by decide) rfl (fun ls hl => ?_)
      refine lv_goto (tgt := 6) hx hb dX5_root_135 (by decide) ?_
      exact ih (k + 1) x vs9 us4 (by omega) (by rw [evs9, hxk]; exact nI_dn1) (hr.trans (by simp only [mo_rt]; rw [if_neg (by rw [← hTR, ← eus3, ← evs5]; exact c_118), ← hTR, ← eus3, ← eus4])) (hu.trans (by simp only [mo_rt]; rw [if_neg (by rw [← hTR, ← eus3, ← evs5]; exact c_118), ← hTR, ← eus3, ← eus4])) H locs ls hN (lv_sub hl [2, 3, 4, 1, 0] rfl)
set_option maxHeartbeats 4000000 in
set_option maxRecDepth 100000 in
theorem ct_X5_root (l : Launch) {D : va_G} {ca : Nat → ClassId} {B : Nat → Nat} {N n : Nat} {X : va_W} {u : ww_U} {x tv : Int32} {t0 : Nat} (ht0 : t0 ≤ 3) (htv : tv = nI t0) (hNN : 29 ≤ N)  : ww_M l yX5_root wsX5_root ({ frames := 1, cells := 0, slots := 0, locals := 28 } : Room) D ca B N n X u [.ref (B 0), .int x, .int tv] (some (.long (mo_rt 38 0 x t0 0 u).2)) (mo_rt 38 0 x t0 0 u).1 := by
  refine ww_met (cc := cX5_root) (maxL := 10) (ret := (some .long)) (by decide) rfl (Nat.le_of_ble_eq_true rfl) ?_
  intro p e s m args below meth c C hN ls hl
  have hl : lv_has ls 10 [(0, .ref (B 0)), (1, .int x), (2, .int tv)] := hl
  have hx := C.1.1
  have hb := C.1.2.1
  refine lv_lconst (v := 0) hx hb dX5_root_0 (by decide) ?_
  refine lv_lstore_n (lv' := [(3, .long 0), (0, .ref (B 0)), (1, .int x), (2, .int tv)]) hx hb dX5_root_1 rfl hl (by decide) rfl (fun ls hl => ?_)
  refine lv_bipush (v := 37) hx hb dX5_root_2 (by decide) ?_
  refine lv_istore (lv' := [(5, .int 37), (3, .long 0), (0, .ref (B 0)), (1, .int x), (2, .int tv)]) hx hb dX5_root_4 hl (by decide) rfl (fun ls hl => ?_)
  exact lp_X5_rt1 C hNN x tv ht0 htv 38 0 0 37 u (by omega) (by decide) rfl rfl _ _ _ hN (lv_sub hl [2, 3, 4, 1, 0] rfl)
