def mo_wl : Nat → Nat → Nat → Nat → Int32 → ww_U → ww_U
  | 0, _, _, _, _, u => u
  | d + 1, k, bs, p, f, u => mo_wl d (k + 1) bs p f (ww_up u 10 (bs + k) (u 19 (256 * p + k) ^^^ f))
def mo_zl : Nat → Nat → Nat → ww_U → ww_U
  | 0, _, _, u => u
  | d + 1, k, bs, u => mo_zl d (k + 1) bs (ww_up u 10 (bs + k) 0)
def mo_fin (u : ww_U) (q p b : Nat) : ww_U := ww_up (ww_up (ww_up u 9 (2 * q + b) (u 12 p)) 14 p 2) 16 p (nI b)
def mo_write (u : ww_U) (q p b w len : Nat) : ww_U :=
  if u 7 q = u 15 p then ww_up (mo_wl (min (16 * w + 16) len - 16 * w) (16 * w) (512 * q + 256 * b) p (u 8 q) u) 7 q (-1)
  else if 16 * w + 16 < len then ww_up (mo_wl (min (16 * w + 16) len - 16 * w) (16 * w) (512 * q + 256 * b) p 0 u) 15 p (nI (w + 1))
  else mo_fin (mo_zl (256 - len) len (512 * q + 256 * b) (ww_up (mo_wl (min (16 * w + 16) len - 16 * w) (16 * w) (512 * q + 256 * b) p 0 u) 15 p (nI (w + 1)))) q p b
theorem mo_wl_ne {d k bs p a : Nat} {f : Int32} {u : ww_U} (h : a ≠ 10) : mo_wl d k bs p f u a = u a := by
  induction d generalizing k u with
  | zero => rfl
  | succ d ih => show mo_wl d (k + 1) bs p f _ a = _; rw [ih, ww_up_ne h]
theorem mo_zl_ne {d k bs a : Nat} {u : ww_U} (h : a ≠ 10) : mo_zl d k bs u a = u a := by
  induction d generalizing k u with
  | zero => rfl
  | succ d ih => show mo_zl d (k + 1) bs _ a = _; rw [ih, ww_up_ne h]
theorem mo_write_4 {u : ww_U} {q p b w len : Nat} : mo_write u q p b w len 4 = u 4 := by
  unfold mo_write mo_fin
  (repeat' split) <;> simp only [ww_up_ne (show (4 : Nat) ≠ 7 by decide), ww_up_ne (show (4 : Nat) ≠ 15 by decide), ww_up_ne (show (4 : Nat) ≠ 16 by decide), ww_up_ne (show (4 : Nat) ≠ 14 by decide), ww_up_ne (show (4 : Nat) ≠ 9 by decide), mo_wl_ne (show (4 : Nat) ≠ 10 by decide), mo_zl_ne (show (4 : Nat) ≠ 10 by decide)]
set_option maxRecDepth 20000 in
theorem kw_X5_write_X5 : ww_K wsX5_write RX5 TX5 36 tyX5 := ⟨by decide +kernel, tyX5_ok, nmX5⟩
set_option maxHeartbeats 4000000 in
set_option maxRecDepth 100000 in
theorem lp_X5_write2 {p : Program} {l : Launch} {e : Env} {s : State} {m : MethodId} {args : Array Value} {below : List Frame} {meth : Method} {c : Code} {D : va_G} {ca : Nat → ClassId} {B : Nat → Nat} {N n : Nat} {X : va_W} (C : ww_C D ca yX5_write.cls cX5_write 8 wsX5_write none (ww_A B N X s.heap.size) p s m args meth c) (hNN : 29 ≤ N) {q p0 b : Nat} (hq8 : q ≤ 8) (hp60 : p0 ≤ 60) (hb2 : b < 2) (x pv bv bs fr : Int32) (hxq : x = nI q) (hpv : pv = nI p0) (hbv : bv = nI b) (hbs : bs = nI (512 * q + 256 * b)) (fq : Int32)  {r : Option Value} {u' : ww_U} : ∀ (d k : Nat) (y : Int32) (u : ww_U), k + d = 256 → (y = nI k) → r = none → u' = mo_fin (mo_zl d k (512 * q + 256 * b) u) q p0 b → ∀ (H : Heap) (locs : List Loc) (ls : Array Slot), ww_N D ca B N n u X (ww_A B N X s.heap.size) s.heap H locs → lv_has ls 8 [(0, .ref (B 0)), (1, .int x), (2, .int pv), (3, .int bv), (4, .int bs), (5, .int fq), (6, .int fr), (7, .int y)] → W p l e (headSpec wsX5_write ({ frames := 0, cells := 0, slots := 0, locals := 0 } : Room)).room s m args below meth c H locs 0 0 (MQ below (ww_Q D ca B N n X s.heap.size r u') args s 0 0 (ww_A B N X s.heap.size)) (F0 m 182 ls []) := by
  have hx := C.1.1
  have hb := C.1.2.1
  intro d
  induction d with
  | zero =>
    intro k y u hkd hxk hr hu H locs ls hN hl
    refine lv_iload hx hb dX5_write_182 (lv_at hl 7 rfl) ?_
    refine lv_sipush (v := 256) hx hb dX5_write_184 (by decide) ?_
    refine lv_icmp_ge (tgt := 207) hx hb dX5_write_187 (by decide) (fun c_187 => ?_) (fun c_187 => absurd c_187 (fun h => h (by rw [hxk, show k = 256 by omega]; decide)))
    refine lv_aload_n hx hb dX5_write_207 rfl (lv_at hl 0 rfl) ?_
    refine rr_get C hN 0 (Nat.lt_of_lt_of_le (by decide) hNN) rfl rfl kw_X5_write_X5 10 (by decide) (List.mem_of_getElem? (i := 9) rfl) (v := .ref (B 9)) rfl dX5_write_208 ?_
    refine lv_iconst (v := 2) hx hb dX5_write_211 (by decide) ?_
    refine lv_iload_n hx hb dX5_write_212 rfl (lv_at hl 1 rfl) ?_
    refine lv_imul hx hb dX5_write_213 ?_
    refine lv_topi (fun vz1 evz1 => ?_)
    refine lv_iload_n hx hb dX5_write_214 rfl (lv_at hl 3 rfl) ?_
    refine lv_iadd hx hb dX5_write_215 ?_
    refine lv_topi (fun vz2 evz2 => ?_)
    refine lv_aload_n hx hb dX5_write_216 rfl (lv_at hl 0 rfl) ?_
    refine rr_get C hN 0 (Nat.lt_of_lt_of_le (by decide) hNN) rfl rfl kw_X5_write_X5 14 (by decide) (List.mem_of_getElem? (i := 10) rfl) (v := .ref (B 12)) rfl dX5_write_217 ?_
    refine lv_iload_n hx hb dX5_write_220 rfl (lv_at hl 2 rfl) ?_
    refine rr_iald C hN 12 (Nat.lt_of_lt_of_le (by decide) hNN) rfl (by decide) p0 (by omega) hpv dX5_write_221 ?_
    refine rr_iast C hN 9 (Nat.lt_of_lt_of_le (by decide) hNN) (fun _ => rfl) (by decide) (2 * q + b) (by omega) (by rw [evz2, evz1, hxq, hbv]; exact (congrArg (fun z : Int32 => z + nI b) (pk_mul 2 q)).trans (nI_add _ _)) dX5_write_222 (fun uz3 euz3 H locs hN => ?_)
    refine lv_aload_n hx hb dX5_write_223 rfl (lv_at hl 0 rfl) ?_
    refine rr_get C hN 0 (Nat.lt_of_lt_of_le (by decide) hNN) rfl rfl kw_X5_write_X5 16 (by decide) (List.mem_of_getElem? (i := 11) rfl) (v := .ref (B 14)) rfl dX5_write_224 ?_
    refine lv_iload_n hx hb dX5_write_227 rfl (lv_at hl 2 rfl) ?_
    refine lv_iconst (v := 2) hx hb dX5_write_228 (by decide) ?_
    refine rr_iast C hN 14 (Nat.lt_of_lt_of_le (by decide) hNN) (fun _ => rfl) (by decide) p0 (by omega) hpv dX5_write_229 (fun uz4 euz4 H locs hN => ?_)
    refine lv_aload_n hx hb dX5_write_230 rfl (lv_at hl 0 rfl) ?_
    refine rr_get C hN 0 (Nat.lt_of_lt_of_le (by decide) hNN) rfl rfl kw_X5_write_X5 18 (by decide) (List.mem_of_getElem? (i := 12) rfl) (v := .ref (B 16)) rfl dX5_write_231 ?_
    refine lv_iload_n hx hb dX5_write_234 rfl (lv_at hl 2 rfl) ?_
    refine lv_iload_n hx hb dX5_write_235 rfl (lv_at hl 3 rfl) ?_
    refine rr_iast C hN 16 (Nat.lt_of_lt_of_le (by decide) hNN) (fun _ => rfl) (by decide) p0 (by omega) hpv dX5_write_236 (fun uz5 euz5 H locs hN => ?_)
    exact rr_vret C hN dX5_write_237 hr (hu.trans (by rw [euz5, euz4, euz3, hbv]; simp only [mo_zl, mo_fin]))
  | succ d ih =>
    intro k y u hkd hxk hr hu H locs ls hN hl
    refine lv_iload hx hb dX5_write_182 (lv_at hl 7 rfl) ?_
    refine lv_sipush (v := 256) hx hb dX5_write_184 (by decide) ?_
    refine lv_icmp_ge (tgt := 207) hx hb dX5_write_187 (by decide) (fun c_187 => absurd c_187 (by rw [hxk]; exact (show ¬ nI 256 ≤ nI k from nI_ge (by omega) (by decide)))) (fun c_187 => ?_)
    refine lv_aload_n hx hb dX5_write_190 rfl (lv_at hl 0 rfl) ?_
    refine rr_get C hN 0 (Nat.lt_of_lt_of_le (by decide) hNN) rfl rfl kw_X5_write_X5 11 (by decide) (List.mem_of_getElem? (i := 6) rfl) (v := .ref (B 10)) rfl dX5_write_191 ?_
    refine lv_iload hx hb dX5_write_194 (lv_at hl 4 rfl) ?_
    refine lv_iload hx hb dX5_write_196 (lv_at hl 7 rfl) ?_
    refine lv_iadd hx hb dX5_write_198 ?_
    refine lv_topi (fun vs1 evs1 => ?_)
    refine lv_iconst (v := 0) hx hb dX5_write_199 (by decide) ?_
    refine rr_iast C hN 10 (Nat.lt_of_lt_of_le (by decide) hNN) (fun _ => rfl) (by decide) (512 * q + 256 * b + k) (by omega) (by rw [evs1, hbs, hxk]; exact nI_add _ _) dX5_write_200 (fun us2 eus2 H locs hN => ?_)
    obtain ⟨vs3, evs3⟩ : ∃ y9 : Int32, y9 = y + 1 := ⟨_, rfl⟩
    refine lv_iinc (v := vs3) (lv' := [(7, .int vs3), (0, .ref (B 0)), (1, .int x), (2, .int pv), (3, .int bv), (4, .int bs), (5, .int fq), (6, .int fr)]) hx hb dX5_write_201 hl (k := 7) rfl (by rw [evs3]; rfl) (by decide) rfl (fun ls hl => ?_)
    refine lv_goto (tgt := 182) hx hb dX5_write_204 (by decide) ?_
    exact ih (k + 1) vs3 us2 (by omega) (by rw [evs3, hxk]; exact nI_1 k) hr (hu.trans (by rw [eus2]; simp only [mo_zl])) H locs ls hN (lv_sub hl [1, 2, 3, 4, 5, 6, 7, 0] rfl)
set_option maxHeartbeats 4000000 in
set_option maxRecDepth 100000 in
theorem lp_X5_write1 {p : Program} {l : Launch} {e : Env} {s : State} {m : MethodId} {args : Array Value} {below : List Frame} {meth : Method} {c : Code} {D : va_G} {ca : Nat → ClassId} {B : Nat → Nat} {N n : Nat} {X : va_W} (C : ww_C D ca yX5_write.cls cX5_write 8 wsX5_write none (ww_A B N X s.heap.size) p s m args meth c) (hNN : 29 ≤ N) {q p0 b : Nat} (hq8 : q ≤ 8) (hp60 : p0 ≤ 60) (hb2 : b < 2) (x pv bv bs fr : Int32) (hxq : x = nI q) (hpv : pv = nI p0) (hbv : bv = nI b) (hbs : bs = nI (512 * q + 256 * b)) (fq fl : Int32) {e1 w len : Nat} (hlen : len ≤ 256) (hw : 16 * w < len) (he1 : e1 = min (16 * w + 16) len) (hfr : fr = nI (16 * w))  {r : Option Value} {u' : ww_U} : ∀ (d k : Nat) (y : Int32) (u : ww_U), k + d = e1 → (y = nI k) → (u 13 p0 = nI len) → (u 15 p0 = nI w) → ((if fq = 0 then (0 : Int32) else u 8 q) = fl) → r = none → u' = (if fq = 0 then (if 16 * w + 16 < len then ww_up (mo_wl d k (512 * q + 256 * b) p0 fl u) 15 p0 (nI (w + 1)) else mo_fin (mo_zl (256 - len) len (512 * q + 256 * b) (ww_up (mo_wl d k (512 * q + 256 * b) p0 fl u) 15 p0 (nI (w + 1)))) q p0 b) else ww_up (mo_wl d k (512 * q + 256 * b) p0 fl u) 7 q (-1)) → ∀ (H : Heap) (locs : List Loc) (ls : Array Slot), ww_N D ca B N n u X (ww_A B N X s.heap.size) s.heap H locs → lv_has ls 8 [(0, .ref (B 0)), (1, .int x), (2, .int pv), (3, .int bv), (4, .int bs), (5, .int fq), (6, .int fr), (7, .int y)] → W p l e (headSpec wsX5_write ({ frames := 0, cells := 0, slots := 0, locals := 0 } : Room)).room s m args below meth c H locs 0 0 (MQ below (ww_Q D ca B N n X s.heap.size r u') args s 0 0 (ww_A B N X s.heap.size)) (F0 m 66 ls []) := by
  have hx := C.1.1
  have hb := C.1.2.1
  intro d
  induction d with
  | zero =>
    intro k y u hkd hxk hle hwe hfl hr hu H locs ls hN hl
    refine lv_iload hx hb dX5_write_66 (lv_at hl 7 rfl) ?_
    refine lv_iload hx hb dX5_write_68 (lv_at hl 6 rfl) ?_
    refine lv_bipush (v := 16) hx hb dX5_write_70 (by decide) ?_
    refine lv_iadd hx hb dX5_write_72 ?_
    refine lv_topi (fun vz1 evz1 => ?_)
    refine lv_icmp_ge (tgt := 132) hx hb dX5_write_73 (by decide) (fun c_73 => ?_) (fun c_73 => ?_)
    · refine lv_iload hx hb dX5_write_132 (lv_at hl 5 rfl) ?_
      refine lv_if_eq (tgt := 145) hx hb dX5_write_134 (by decide) (fun c_134 => ?_) (fun c_134 => ?_)
      · refine lv_aload_n hx hb dX5_write_145 rfl (lv_at hl 0 rfl) ?_
        refine rr_get C hN 0 (Nat.lt_of_lt_of_le (by decide) hNN) rfl rfl kw_X5_write_X5 17 (by decide) (List.mem_of_getElem? (i := 4) rfl) (v := .ref (B 15)) rfl dX5_write_146 ?_
        refine lv_iload_n hx hb dX5_write_149 rfl (lv_at hl 2 rfl) ?_
        refine lv_dup2_11 hx hb dX5_write_150 rfl rfl ?_
        refine rr_iald C hN 15 (Nat.lt_of_lt_of_le (by decide) hNN) rfl (by decide) p0 (by omega) hpv dX5_write_151 ?_
        refine lv_iconst (v := 1) hx hb dX5_write_152 (by decide) ?_
        refine lv_iadd hx hb dX5_write_153 ?_
        refine lv_topi (fun vz2 evz2 => ?_)
        refine rr_iast C hN 15 (Nat.lt_of_lt_of_le (by decide) hNN) (fun _ => rfl) (by decide) p0 (by omega) hpv dX5_write_154 (fun uz3 euz3 H locs hN => ?_)
        have hU1 : uz3 = ww_up u 15 p0 (nI (w + 1)) := by rw [euz3, evz2, hwe, nI_1]
        have hL1 : uz3 13 p0 = nI len := by rw [hU1]; exact hle
        refine lv_bipush (v := 16) hx hb dX5_write_155 (by decide) ?_
        refine lv_aload_n hx hb dX5_write_157 rfl (lv_at hl 0 rfl) ?_
        refine rr_get C hN 0 (Nat.lt_of_lt_of_le (by decide) hNN) rfl rfl kw_X5_write_X5 17 (by decide) (List.mem_of_getElem? (i := 4) rfl) (v := .ref (B 15)) rfl dX5_write_158 ?_
        refine lv_iload_n hx hb dX5_write_161 rfl (lv_at hl 2 rfl) ?_
        refine rr_iald C hN 15 (Nat.lt_of_lt_of_le (by decide) hNN) rfl (by decide) p0 (by omega) hpv dX5_write_162 ?_
        refine lv_imul hx hb dX5_write_163 ?_
        refine lv_topi (fun vz4 evz4 => ?_)
        have hV2 : vz4 = nI (16 * w + 16) := by rw [evz4, hU1, ww_up_self]; exact (pk_mul 16 (w + 1)).trans (congrArg nI (by omega))
        refine lv_aload_n hx hb dX5_write_164 rfl (lv_at hl 0 rfl) ?_
        refine rr_get C hN 0 (Nat.lt_of_lt_of_le (by decide) hNN) rfl rfl kw_X5_write_X5 15 (by decide) (List.mem_of_getElem? (i := 5) rfl) (v := .ref (B 13)) rfl dX5_write_165 ?_
        refine lv_iload_n hx hb dX5_write_168 rfl (lv_at hl 2 rfl) ?_
        refine rr_iald C hN 13 (Nat.lt_of_lt_of_le (by decide) hNN) rfl (by decide) p0 (by omega) hpv dX5_write_169 ?_
        refine lv_icmp_ge (tgt := 174) hx hb dX5_write_170 (by decide) (fun c_170 => ?_) (fun c_170 => ?_)
        · refine lv_aload_n hx hb dX5_write_174 rfl (lv_at hl 0 rfl) ?_
          refine rr_get C hN 0 (Nat.lt_of_lt_of_le (by decide) hNN) rfl rfl kw_X5_write_X5 15 (by decide) (List.mem_of_getElem? (i := 5) rfl) (v := .ref (B 13)) rfl dX5_write_175 ?_
          refine lv_iload_n hx hb dX5_write_178 rfl (lv_at hl 2 rfl) ?_
          refine rr_iald C hN 13 (Nat.lt_of_lt_of_le (by decide) hNN) rfl (by decide) p0 (by omega) hpv dX5_write_179 ?_
          refine lv_istore (lv' := [(7, .int (uz3 13 p0)), (0, .ref (B 0)), (1, .int x), (2, .int pv), (3, .int bv), (4, .int bs), (5, .int fq), (6, .int fr)]) hx hb dX5_write_180 hl (by decide) rfl (fun ls hl => ?_)
          exact lp_X5_write2 C hNN hq8 hp60 hb2 x pv bv bs fr hxq hpv hbv hbs fq (256 - len) len (uz3 13 p0) uz3 (by omega) hL1 hr (hu.trans (by rw [if_pos c_134, if_neg (fun z => nI_ge z (by omega) (by rw [← hL1, ← hV2]; exact c_170)), hU1]; simp only [mo_wl])) H locs ls hN (lv_sub hl [1, 2, 3, 4, 5, 6, 7, 0] rfl)
        · exact rr_vret C hN dX5_write_173 hr (hu.trans (by rw [if_pos c_134, if_pos (by rcases Nat.lt_or_ge (16 * w + 16) len with z | z; exact z; exact absurd (by rw [hL1, hV2]; exact nI_le z (by omega)) c_170), hU1]; simp only [mo_wl]))
      · refine lv_aload_n hx hb dX5_write_137 rfl (lv_at hl 0 rfl) ?_
        refine rr_get C hN 0 (Nat.lt_of_lt_of_le (by decide) hNN) rfl rfl kw_X5_write_X5 8 (by decide) (List.mem_of_getElem? (i := 3) rfl) (v := .ref (B 7)) rfl dX5_write_138 ?_
        refine lv_iload_n hx hb dX5_write_141 rfl (lv_at hl 1 rfl) ?_
        refine lv_iconst (v := (-1)) hx hb dX5_write_142 (by decide) ?_
        refine rr_iast C hN 7 (Nat.lt_of_lt_of_le (by decide) hNN) (fun _ => rfl) (by decide) q (by omega) hxq dX5_write_143 (fun uz5 euz5 H locs hN => ?_)
        exact rr_vret C hN dX5_write_144 hr (hu.trans (by rw [if_neg c_134, euz5]; simp only [mo_wl]))
    · refine lv_iload hx hb dX5_write_76 (lv_at hl 7 rfl) ?_
      refine lv_aload_n hx hb dX5_write_78 rfl (lv_at hl 0 rfl) ?_
      refine rr_get C hN 0 (Nat.lt_of_lt_of_le (by decide) hNN) rfl rfl kw_X5_write_X5 15 (by decide) (List.mem_of_getElem? (i := 5) rfl) (v := .ref (B 13)) rfl dX5_write_79 ?_
      refine lv_iload_n hx hb dX5_write_82 rfl (lv_at hl 2 rfl) ?_
      refine rr_iald C hN 13 (Nat.lt_of_lt_of_le (by decide) hNN) rfl (by decide) p0 (by omega) hpv dX5_write_83 ?_
      refine lv_icmp_ge (tgt := 132) hx hb dX5_write_84 (by decide) (fun c_84 => ?_) (fun c_84 => absurd c_84 (fun h => h (by rw [hle, hxk]; exact nI_le (by rcases Nat.lt_or_ge len (16 * w + 16) with z | z; omega; exact absurd (by rw [evz1, hfr, hxk]; exact (show nI (16 * w) + nI 16 ≤ nI k by rw [nI_add]; exact nI_le (by omega) (by omega))) c_73) (by omega))))
      refine lv_iload hx hb dX5_write_132 (lv_at hl 5 rfl) ?_
      refine lv_if_eq (tgt := 145) hx hb dX5_write_134 (by decide) (fun c_134 => ?_) (fun c_134 => ?_)
      · refine lv_aload_n hx hb dX5_write_145 rfl (lv_at hl 0 rfl) ?_
        refine rr_get C hN 0 (Nat.lt_of_lt_of_le (by decide) hNN) rfl rfl kw_X5_write_X5 17 (by decide) (List.mem_of_getElem? (i := 4) rfl) (v := .ref (B 15)) rfl dX5_write_146 ?_
        refine lv_iload_n hx hb dX5_write_149 rfl (lv_at hl 2 rfl) ?_
        refine lv_dup2_11 hx hb dX5_write_150 rfl rfl ?_
        refine rr_iald C hN 15 (Nat.lt_of_lt_of_le (by decide) hNN) rfl (by decide) p0 (by omega) hpv dX5_write_151 ?_
        refine lv_iconst (v := 1) hx hb dX5_write_152 (by decide) ?_
        refine lv_iadd hx hb dX5_write_153 ?_
        refine lv_topi (fun vz6 evz6 => ?_)
        refine rr_iast C hN 15 (Nat.lt_of_lt_of_le (by decide) hNN) (fun _ => rfl) (by decide) p0 (by omega) hpv dX5_write_154 (fun uz7 euz7 H locs hN => ?_)
        have hU1 : uz7 = ww_up u 15 p0 (nI (w + 1)) := by rw [euz7, evz6, hwe, nI_1]
        have hL1 : uz7 13 p0 = nI len := by rw [hU1]; exact hle
        refine lv_bipush (v := 16) hx hb dX5_write_155 (by decide) ?_
        refine lv_aload_n hx hb dX5_write_157 rfl (lv_at hl 0 rfl) ?_
        refine rr_get C hN 0 (Nat.lt_of_lt_of_le (by decide) hNN) rfl rfl kw_X5_write_X5 17 (by decide) (List.mem_of_getElem? (i := 4) rfl) (v := .ref (B 15)) rfl dX5_write_158 ?_
        refine lv_iload_n hx hb dX5_write_161 rfl (lv_at hl 2 rfl) ?_
        refine rr_iald C hN 15 (Nat.lt_of_lt_of_le (by decide) hNN) rfl (by decide) p0 (by omega) hpv dX5_write_162 ?_
        refine lv_imul hx hb dX5_write_163 ?_
        refine lv_topi (fun vz8 evz8 => ?_)
        have hV2 : vz8 = nI (16 * w + 16) := by rw [evz8, hU1, ww_up_self]; exact (pk_mul 16 (w + 1)).trans (congrArg nI (by omega))
        refine lv_aload_n hx hb dX5_write_164 rfl (lv_at hl 0 rfl) ?_
        refine rr_get C hN 0 (Nat.lt_of_lt_of_le (by decide) hNN) rfl rfl kw_X5_write_X5 15 (by decide) (List.mem_of_getElem? (i := 5) rfl) (v := .ref (B 13)) rfl dX5_write_165 ?_
        refine lv_iload_n hx hb dX5_write_168 rfl (lv_at hl 2 rfl) ?_
        refine rr_iald C hN 13 (Nat.lt_of_lt_of_le (by decide) hNN) rfl (by decide) p0 (by omega) hpv dX5_write_169 ?_
        refine lv_icmp_ge (tgt := 174) hx hb dX5_write_170 (by decide) (fun c_170 => ?_) (fun c_170 => ?_)
        · refine lv_aload_n hx hb dX5_write_174 rfl (lv_at hl 0 rfl) ?_
          refine rr_get C hN 0 (Nat.lt_of_lt_of_le (by decide) hNN) rfl rfl kw_X5_write_X5 15 (by decide) (List.mem_of_getElem? (i := 5) rfl) (v := .ref (B 13)) rfl dX5_write_175 ?_
          refine lv_iload_n hx hb dX5_write_178 rfl (lv_at hl 2 rfl) ?_
          refine rr_iald C hN 13 (Nat.lt_of_lt_of_le (by decide) hNN) rfl (by decide) p0 (by omega) hpv dX5_write_179 ?_
          refine lv_istore (lv' := [(7, .int (uz7 13 p0)), (0, .ref (B 0)), (1, .int x), (2, .int pv), (3, .int bv), (4, .int bs), (5, .int fq), (6, .int fr)]) hx hb dX5_write_180 hl (by decide) rfl (fun ls hl => ?_)
          exact lp_X5_write2 C hNN hq8 hp60 hb2 x pv bv bs fr hxq hpv hbv hbs fq (256 - len) len (uz7 13 p0) uz7 (by omega) hL1 hr (hu.trans (by rw [if_pos c_134, if_neg (fun z => nI_ge z (by omega) (by rw [← hL1, ← hV2]; exact c_170)), hU1]; simp only [mo_wl])) H locs ls hN (lv_sub hl [1, 2, 3, 4, 5, 6, 7, 0] rfl)
        · exact rr_vret C hN dX5_write_173 hr (hu.trans (by rw [if_pos c_134, if_pos (by rcases Nat.lt_or_ge (16 * w + 16) len with z | z; exact z; exact absurd (by rw [hL1, hV2]; exact nI_le z (by omega)) c_170), hU1]; simp only [mo_wl]))
      · refine lv_aload_n hx hb dX5_write_137 rfl (lv_at hl 0 rfl) ?_
        refine rr_get C hN 0 (Nat.lt_of_lt_of_le (by decide) hNN) rfl rfl kw_X5_write_X5 8 (by decide) (List.mem_of_getElem? (i := 3) rfl) (v := .ref (B 7)) rfl dX5_write_138 ?_
        refine lv_iload_n hx hb dX5_write_141 rfl (lv_at hl 1 rfl) ?_
        refine lv_iconst (v := (-1)) hx hb dX5_write_142 (by decide) ?_
        refine rr_iast C hN 7 (Nat.lt_of_lt_of_le (by decide) hNN) (fun _ => rfl) (by decide) q (by omega) hxq dX5_write_143 (fun uz9 euz9 H locs hN => ?_)
        exact rr_vret C hN dX5_write_144 hr (hu.trans (by rw [if_neg c_134, euz9]; simp only [mo_wl]))
  | succ d ih =>
    intro k y u hkd hxk hle hwe hfl hr hu H locs ls hN hl
    refine lv_iload hx hb dX5_write_66 (lv_at hl 7 rfl) ?_
    refine lv_iload hx hb dX5_write_68 (lv_at hl 6 rfl) ?_
    refine lv_bipush (v := 16) hx hb dX5_write_70 (by decide) ?_
    refine lv_iadd hx hb dX5_write_72 ?_
    refine lv_topi (fun vs1 evs1 => ?_)
    refine lv_icmp_ge (tgt := 132) hx hb dX5_write_73 (by decide) (fun c_73 => absurd c_73 (by rw [evs1, hfr, hxk]; exact (show ¬ nI (16 * w) + nI 16 ≤ nI k by rw [nI_add]; exact nI_ge (by omega) (by omega)))) (fun c_73 => ?_)
    refine lv_iload hx hb dX5_write_76 (lv_at hl 7 rfl) ?_
    refine lv_aload_n hx hb dX5_write_78 rfl (lv_at hl 0 rfl) ?_
    refine rr_get C hN 0 (Nat.lt_of_lt_of_le (by decide) hNN) rfl rfl kw_X5_write_X5 15 (by decide) (List.mem_of_getElem? (i := 5) rfl) (v := .ref (B 13)) rfl dX5_write_79 ?_
    refine lv_iload_n hx hb dX5_write_82 rfl (lv_at hl 2 rfl) ?_
    refine rr_iald C hN 13 (Nat.lt_of_lt_of_le (by decide) hNN) rfl (by decide) p0 (by omega) hpv dX5_write_83 ?_
    refine lv_icmp_ge (tgt := 132) hx hb dX5_write_84 (by decide) (fun c_84 => absurd c_84 (by rw [hle, hxk]; exact nI_ge (by omega) (by omega))) (fun c_84 => ?_)
    refine lv_aload_n hx hb dX5_write_87 rfl (lv_at hl 0 rfl) ?_
    refine rr_get C hN 0 (Nat.lt_of_lt_of_le (by decide) hNN) rfl rfl kw_X5_write_X5 11 (by decide) (List.mem_of_getElem? (i := 6) rfl) (v := .ref (B 10)) rfl dX5_write_88 ?_
    refine lv_iload hx hb dX5_write_91 (lv_at hl 4 rfl) ?_
    refine lv_iload hx hb dX5_write_93 (lv_at hl 7 rfl) ?_
    refine lv_iadd hx hb dX5_write_95 ?_
    refine lv_topi (fun vs2 evs2 => ?_)
    refine lv_aload_n hx hb dX5_write_96 rfl (lv_at hl 0 rfl) ?_
    refine rr_get C hN 0 (Nat.lt_of_lt_of_le (by decide) hNN) rfl rfl kw_X5_write_X5 21 (by decide) (List.mem_of_getElem? (i := 7) rfl) (v := .ref (B 19)) rfl dX5_write_97 ?_
    refine lv_sipush (v := 256) hx hb dX5_write_100 (by decide) ?_
    refine lv_iload_n hx hb dX5_write_103 rfl (lv_at hl 2 rfl) ?_
    refine lv_imul hx hb dX5_write_104 ?_
    refine lv_topi (fun vs3 evs3 => ?_)
    refine lv_iload hx hb dX5_write_105 (lv_at hl 7 rfl) ?_
    refine lv_iadd hx hb dX5_write_107 ?_
    refine lv_topi (fun vs4 evs4 => ?_)
    refine rr_iald C hN 19 (Nat.lt_of_lt_of_le (by decide) hNN) rfl (by decide) (256 * p0 + k) (by omega) (by rw [evs4, evs3, hpv, hxk]; exact (congrArg (fun z : Int32 => z + nI k) (pk_mul 256 p0)).trans (nI_add _ _)) dX5_write_108 ?_
    refine lv_iload hx hb dX5_write_109 (lv_at hl 5 rfl) ?_
    refine lv_if_eq (tgt := 123) hx hb dX5_write_111 (by decide) (fun c_111 => ?_) (fun c_111 => ?_)
    · refine lv_iconst (v := 0) hx hb dX5_write_123 (by decide) ?_
      refine lv_ixor hx hb dX5_write_124 ?_
      refine lv_topi (fun vs5 evs5 => ?_)
      refine rr_iast C hN 10 (Nat.lt_of_lt_of_le (by decide) hNN) (fun _ => rfl) (by decide) (512 * q + 256 * b + k) (by omega) (by rw [evs2, hbs, hxk]; exact nI_add _ _) dX5_write_125 (fun us6 eus6 H locs hN => ?_)
      obtain ⟨vs7, evs7⟩ : ∃ y9 : Int32, y9 = y + 1 := ⟨_, rfl⟩
      refine lv_iinc (v := vs7) (lv' := [(7, .int vs7), (0, .ref (B 0)), (1, .int x), (2, .int pv), (3, .int bv), (4, .int bs), (5, .int fq), (6, .int fr)]) hx hb dX5_write_126 hl (k := 7) rfl (by rw [evs7]; rfl) (by decide) rfl (fun ls hl => ?_)
      refine lv_goto (tgt := 66) hx hb dX5_write_129 (by decide) ?_
      exact ih (k + 1) vs7 us6 (by omega) (by rw [evs7, hxk]; exact nI_1 k) (by rw [eus6]; exact hle) (by rw [eus6]; exact hwe) (by rw [eus6]; exact hfl) hr (hu.trans (by rw [show mo_wl (d + 1) k (512 * q + 256 * b) p0 fl u = mo_wl d (k + 1) (512 * q + 256 * b) p0 fl us6 by rw [eus6, evs5, ← hfl]; simp only [mo_wl]; (first | rw [if_pos c_111] | rw [if_neg c_111])])) H locs ls hN (lv_sub hl [1, 2, 3, 4, 5, 6, 7, 0] rfl)
    · refine lv_aload_n hx hb dX5_write_114 rfl (lv_at hl 0 rfl) ?_
      refine rr_get C hN 0 (Nat.lt_of_lt_of_le (by decide) hNN) rfl rfl kw_X5_write_X5 9 (by decide) (List.mem_of_getElem? (i := 8) rfl) (v := .ref (B 8)) rfl dX5_write_115 ?_
      refine lv_iload_n hx hb dX5_write_118 rfl (lv_at hl 1 rfl) ?_
      refine rr_iald C hN 8 (Nat.lt_of_lt_of_le (by decide) hNN) rfl (by decide) q (by omega) hxq dX5_write_119 ?_
      refine lv_goto (tgt := 124) hx hb dX5_write_120 (by decide) ?_
      refine lv_ixor hx hb dX5_write_124 ?_
      refine lv_topi (fun vs8 evs8 => ?_)
      refine rr_iast C hN 10 (Nat.lt_of_lt_of_le (by decide) hNN) (fun _ => rfl) (by decide) (512 * q + 256 * b + k) (by omega) (by rw [evs2, hbs, hxk]; exact nI_add _ _) dX5_write_125 (fun us9 eus9 H locs hN => ?_)
      obtain ⟨vs10, evs10⟩ : ∃ y9 : Int32, y9 = y + 1 := ⟨_, rfl⟩
      refine lv_iinc (v := vs10) (lv' := [(7, .int vs10), (0, .ref (B 0)), (1, .int x), (2, .int pv), (3, .int bv), (4, .int bs), (5, .int fq), (6, .int fr)]) hx hb dX5_write_126 hl (k := 7) rfl (by rw [evs10]; rfl) (by decide) rfl (fun ls hl => ?_)
      refine lv_goto (tgt := 66) hx hb dX5_write_129 (by decide) ?_
      exact ih (k + 1) vs10 us9 (by omega) (by rw [evs10, hxk]; exact nI_1 k) (by rw [eus9]; exact hle) (by rw [eus9]; exact hwe) (by rw [eus9]; exact hfl) hr (hu.trans (by rw [show mo_wl (d + 1) k (512 * q + 256 * b) p0 fl u = mo_wl d (k + 1) (512 * q + 256 * b) p0 fl us9 by rw [eus9, evs8, ← hfl]; simp only [mo_wl]; (first | rw [if_pos c_111] | rw [if_neg c_111])])) H locs ls hN (lv_sub hl [1, 2, 3, 4, 5, 6, 7, 0] rfl)
set_option maxHeartbeats 4000000 in
set_option maxRecDepth 100000 in
theorem ct_X5_write (l : Launch) {D : va_G} {ca : Nat → ClassId} {B : Nat → Nat} {N n : Nat} {X : va_W} {u : ww_U} {x : Int32} {q p0 b w len : Nat} (hq8 : q ≤ 8) (hxq : x = nI q) (hp60 : p0 ≤ 60) (hop : u 4 q = nI p0) (hb2 : b < 2) (hru : u 2 q = nI (1 - b)) (hwe : u 15 p0 = nI w) (hle : u 13 p0 = nI len) (hlen : len ≤ 256) (hw : 16 * w < len) (hNN : 29 ≤ N)  : ww_M l yX5_write wsX5_write ({ frames := 0, cells := 0, slots := 0, locals := 0 } : Room) D ca B N n X u [.ref (B 0), .int x] none (mo_write u q p0 b w len) := by
  refine ww_met (cc := cX5_write) (maxL := 8) (ret := none) (by decide) rfl (Nat.le_of_ble_eq_true rfl) ?_
  intro p e s m args below meth c C hN ls hl
  have hl : lv_has ls 8 [(0, .ref (B 0)), (1, .int x)] := hl
  have hx := C.1.1
  have hb := C.1.2.1
  refine lv_aload_n hx hb dX5_write_0 rfl (lv_at hl 0 rfl) ?_
  refine rr_get C hN 0 (Nat.lt_of_lt_of_le (by decide) hNN) rfl rfl kw_X5_write_X5 5 (by decide) (List.mem_of_getElem? (i := 1) rfl) (v := .ref (B 4)) rfl dX5_write_1 ?_
  refine lv_iload_n hx hb dX5_write_4 rfl (lv_at hl 1 rfl) ?_
  refine rr_iald C hN 4 (Nat.lt_of_lt_of_le (by decide) hNN) rfl (by decide) q (by omega) hxq dX5_write_5 ?_
  refine lv_istore_n (lv' := [(2, .int (u 4 q)), (0, .ref (B 0)), (1, .int x)]) hx hb dX5_write_6 rfl hl (by decide) rfl (fun ls hl => ?_)
  refine lv_iconst (v := 1) hx hb dX5_write_7 (by decide) ?_
  refine lv_aload_n hx hb dX5_write_8 rfl (lv_at hl 1 rfl) ?_
  refine rr_get C hN 0 (Nat.lt_of_lt_of_le (by decide) hNN) rfl rfl kw_X5_write_X5 3 (by decide) (List.mem_of_getElem? (i := 2) rfl) (v := .ref (B 2)) rfl dX5_write_9 ?_
  refine lv_iload_n hx hb dX5_write_12 rfl (lv_at hl 2 rfl) ?_
  refine rr_iald C hN 2 (Nat.lt_of_lt_of_le (by decide) hNN) rfl (by decide) q (by omega) hxq dX5_write_13 ?_
  refine lv_isub hx hb dX5_write_14 ?_
  refine lv_topi (fun v1 ev1 => ?_)
  refine lv_istore_n (lv' := [(3, .int v1), (2, .int (u 4 q)), (0, .ref (B 0)), (1, .int x)]) hx hb dX5_write_15 rfl hl (by decide) rfl (fun ls hl => ?_)
  refine lv_sipush (v := 512) hx hb dX5_write_16 (by decide) ?_
  refine lv_iload_n hx hb dX5_write_19 rfl (lv_at hl 3 rfl) ?_
  refine lv_imul hx hb dX5_write_20 ?_
  refine lv_topi (fun v2 ev2 => ?_)
  refine lv_sipush (v := 256) hx hb dX5_write_21 (by decide) ?_
  refine lv_iload_n hx hb dX5_write_24 rfl (lv_at hl 0 rfl) ?_
  refine lv_imul hx hb dX5_write_25 ?_
  refine lv_topi (fun v3 ev3 => ?_)
  refine lv_iadd hx hb dX5_write_26 ?_
  refine lv_topi (fun v4 ev4 => ?_)
  refine lv_istore (lv' := [(4, .int v4), (3, .int v1), (2, .int (u 4 q)), (0, .ref (B 0)), (1, .int x)]) hx hb dX5_write_27 hl (by decide) rfl (fun ls hl => ?_)
  refine lv_aload_n hx hb dX5_write_29 rfl (lv_at hl 3 rfl) ?_
  refine rr_get C hN 0 (Nat.lt_of_lt_of_le (by decide) hNN) rfl rfl kw_X5_write_X5 8 (by decide) (List.mem_of_getElem? (i := 3) rfl) (v := .ref (B 7)) rfl dX5_write_30 ?_
  refine lv_iload_n hx hb dX5_write_33 rfl (lv_at hl 4 rfl) ?_
  refine rr_iald C hN 7 (Nat.lt_of_lt_of_le (by decide) hNN) rfl (by decide) q (by omega) hxq dX5_write_34 ?_
  refine lv_aload_n hx hb dX5_write_35 rfl (lv_at hl 3 rfl) ?_
  refine rr_get C hN 0 (Nat.lt_of_lt_of_le (by decide) hNN) rfl rfl kw_X5_write_X5 17 (by decide) (List.mem_of_getElem? (i := 4) rfl) (v := .ref (B 15)) rfl dX5_write_36 ?_
  refine lv_iload_n hx hb dX5_write_39 rfl (lv_at hl 2 rfl) ?_
  refine rr_iald C hN 15 (Nat.lt_of_lt_of_le (by decide) hNN) rfl (by decide) p0 (by omega) hop dX5_write_40 ?_
  refine lv_icmp_ne (tgt := 48) hx hb dX5_write_41 (by decide) (fun c_41 => ?_) (fun c_41 => ?_)
  · refine lv_iconst (v := 0) hx hb dX5_write_48 (by decide) ?_
    refine lv_istore (lv' := [(5, .int 0), (4, .int v4), (3, .int v1), (2, .int (u 4 q)), (0, .ref (B 0)), (1, .int x)]) hx hb dX5_write_49 hl (by decide) rfl (fun ls hl => ?_)
    refine lv_bipush (v := 16) hx hb dX5_write_51 (by decide) ?_
    refine lv_aload_n hx hb dX5_write_53 rfl (lv_at hl 4 rfl) ?_
    refine rr_get C hN 0 (Nat.lt_of_lt_of_le (by decide) hNN) rfl rfl kw_X5_write_X5 17 (by decide) (List.mem_of_getElem? (i := 4) rfl) (v := .ref (B 15)) rfl dX5_write_54 ?_
    refine lv_iload_n hx hb dX5_write_57 rfl (lv_at hl 3 rfl) ?_
    refine rr_iald C hN 15 (Nat.lt_of_lt_of_le (by decide) hNN) rfl (by decide) p0 (by omega) hop dX5_write_58 ?_
    refine lv_imul hx hb dX5_write_59 ?_
    refine lv_topi (fun v5 ev5 => ?_)
    refine lv_istore (lv' := [(6, .int v5), (5, .int 0), (4, .int v4), (3, .int v1), (2, .int (u 4 q)), (0, .ref (B 0)), (1, .int x)]) hx hb dX5_write_60 hl (by decide) rfl (fun ls hl => ?_)
    refine lv_iload hx hb dX5_write_62 (lv_at hl 0 rfl) ?_
    refine lv_istore (lv' := [(7, .int v5), (6, .int v5), (5, .int 0), (4, .int v4), (3, .int v1), (2, .int (u 4 q)), (0, .ref (B 0)), (1, .int x)]) hx hb dX5_write_64 hl (by decide) rfl (fun ls hl => ?_)
    have hbv : v1 = nI b := by rw [ev1, hru]; rcases (show b = 0 ∨ b = 1 by omega) with rfl | rfl <;> rfl
    have hbs : v4 = nI (512 * q + 256 * b) := by rw [ev4, ev2, ev3, hxq, hbv]; exact (congrArg (fun z : Int32 => z + 256 * nI b) (pk_mul 512 q)).trans ((congrArg (fun z : Int32 => nI (512 * q) + z) (pk_mul 256 b)).trans (nI_add _ _))
    have hfr : v5 = nI (16 * w) := by rw [ev5, hwe]; exact pk_mul 16 w
    exact lp_X5_write1 C hNN hq8 hp60 hb2 x (u 4 q) v1 v4 v5 hxq hop hbv hbs 0 0 hlen hw rfl hfr (min (16 * w + 16) len - 16 * w) (16 * w) v5 u (by omega) hfr hle hwe (if_pos rfl) rfl (by unfold mo_write; rw [if_neg c_41, if_pos (show (0 : Int32) = 0 from rfl)]) _ _ _ hN (lv_sub hl [6, 7, 5, 4, 3, 2, 1, 0] rfl)
  · refine lv_iconst (v := 1) hx hb dX5_write_44 (by decide) ?_
    refine lv_goto (tgt := 49) hx hb dX5_write_45 (by decide) ?_
    refine lv_istore (lv' := [(5, .int 1), (4, .int v4), (3, .int v1), (2, .int (u 4 q)), (0, .ref (B 0)), (1, .int x)]) hx hb dX5_write_49 hl (by decide) rfl (fun ls hl => ?_)
    refine lv_bipush (v := 16) hx hb dX5_write_51 (by decide) ?_
    refine lv_aload_n hx hb dX5_write_53 rfl (lv_at hl 4 rfl) ?_
    refine rr_get C hN 0 (Nat.lt_of_lt_of_le (by decide) hNN) rfl rfl kw_X5_write_X5 17 (by decide) (List.mem_of_getElem? (i := 4) rfl) (v := .ref (B 15)) rfl dX5_write_54 ?_
    refine lv_iload_n hx hb dX5_write_57 rfl (lv_at hl 3 rfl) ?_
    refine rr_iald C hN 15 (Nat.lt_of_lt_of_le (by decide) hNN) rfl (by decide) p0 (by omega) hop dX5_write_58 ?_
    refine lv_imul hx hb dX5_write_59 ?_
    refine lv_topi (fun v6 ev6 => ?_)
    refine lv_istore (lv' := [(6, .int v6), (5, .int 1), (4, .int v4), (3, .int v1), (2, .int (u 4 q)), (0, .ref (B 0)), (1, .int x)]) hx hb dX5_write_60 hl (by decide) rfl (fun ls hl => ?_)
    refine lv_iload hx hb dX5_write_62 (lv_at hl 0 rfl) ?_
    refine lv_istore (lv' := [(7, .int v6), (6, .int v6), (5, .int 1), (4, .int v4), (3, .int v1), (2, .int (u 4 q)), (0, .ref (B 0)), (1, .int x)]) hx hb dX5_write_64 hl (by decide) rfl (fun ls hl => ?_)
    have hbv : v1 = nI b := by rw [ev1, hru]; rcases (show b = 0 ∨ b = 1 by omega) with rfl | rfl <;> rfl
    have hbs : v4 = nI (512 * q + 256 * b) := by rw [ev4, ev2, ev3, hxq, hbv]; exact (congrArg (fun z : Int32 => z + 256 * nI b) (pk_mul 512 q)).trans ((congrArg (fun z : Int32 => nI (512 * q) + z) (pk_mul 256 b)).trans (nI_add _ _))
    have hfr : v6 = nI (16 * w) := by rw [ev6, hwe]; exact pk_mul 16 w
    exact lp_X5_write1 C hNN hq8 hp60 hb2 x (u 4 q) v1 v4 v6 hxq hop hbv hbs 1 (u 8 q) hlen hw rfl hfr (min (16 * w + 16) len - 16 * w) (16 * w) v6 u (by omega) hfr hle hwe (if_neg (by decide)) rfl (by unfold mo_write; rw [if_pos c_41, if_neg (show ¬ (1 : Int32) = 0 by decide)]) _ _ _ hN (lv_sub hl [6, 7, 5, 4, 3, 2, 1, 0] rfl)
