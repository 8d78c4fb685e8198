def sh_wd (pd : Nat → Nat) (j : Nat) : Int32 := nI (((pd j * 256 + pd (j + 1)) * 256 + pd (j + 2)) * 256 + pd (j + 3))
theorem sh_w_wd {z : ww_U} {pd : Nat → Nat} {j T : Nat} (hpd : ∀ j, pd j < 256) (hz : ∀ j, j < T → z 33 j &&& 255 = nI (pd j)) (hj : j + 3 < T) : sh_w z j = sh_wd pd j := by
  unfold sh_w sh_wd
  rw [hz j (by omega), hz (j + 1) (by omega), hz (j + 2) (by omega), hz (j + 3) hj]
  exact sh_word (hpd _) (hpd _) (hpd _) (hpd _)
theorem nI_h (a b : Nat) : nI a * 256 + nI b = nI (a * 256 + b) := (congrArg (fun z : Int32 => z + nI b) (pk_mul a 256)).trans (nI_add _ _)
theorem mo_l5_wd {z : ww_U} {pd : Nat → Nat} {t p m a w0 : Nat} (hz : ∀ z' : ww_U, z' 19 = z 19 → ∀ j, j < a + 64 → mo_pad z' p m j w0 = nI (pd j)) (ht : t < 16) : mo_l5 4 0 t p m a w0 (ww_up z 27 t 0) 27 t = sh_wd pd (a + 4 * t) := by
  unfold mo_l5 mo_l5 mo_l5 mo_l5 mo_l5
  have h19 : ∀ (y : ww_U) (x : Int32), ww_up y 27 t x 19 = y 19 := fun y x => ww_up_ne (by decide)
  rw [ww_up_self, ww_up_self, ww_up_self, ww_up_self, ww_up_self]
  rw [hz (ww_up z 27 t 0) (h19 _ _) (a + 4 * t + 0) (by omega)]
  rw [hz _ (by rw [h19, h19]) (a + 4 * t + (0 + 1)) (by omega)]
  rw [hz _ (by rw [h19, h19, h19]) (a + 4 * t + (0 + 1 + 1)) (by omega)]
  rw [hz _ (by rw [h19, h19, h19, h19]) (a + 4 * t + (0 + 1 + 1 + 1)) (by omega)]
  have e0 : (0 : Int32) * 256 + nI (pd (a + 4 * t + 0)) = nI (pd (a + 4 * t)) := by
    have := nI_h 0 (pd (a + 4 * t + 0))
    rw [Nat.zero_mul, Nat.zero_add] at this
    exact this
  rw [e0, nI_h, nI_h, nI_h]
  rfl
theorem cl_mx_33 {k : Nat} {v : ww_U} : cl_mx (cl_fill (64 * k) v) 33 = v 33 := by
  unfold cl_mx cl_fill
  rw [cl_mix_ne (by decide), cl_f2_ne (by decide), cl_f1_ne (by decide)]
theorem dg_eq {pd : Nat → Nat} (hpd : ∀ j, pd j < 256) {p m q0 : Nat} : ∀ (d k : Nat) (v u : ww_U), k + d = q0 → (∀ j, j < 64 * q0 → v 33 j &&& 255 = nI (pd j)) → (∀ z : ww_U, z 19 = u 19 → ∀ j, j < 64 * q0 → mo_pad z p m j (64 * q0) = nI (pd j)) → (∀ t, t < 64 → u 23 t = ww_cu t) → (∀ r, r < 8 → v 35 r = u 26 r) → ∀ r, r < 8 → cl_dg d k v 35 r = mo_l3 d k p m (64 * q0) u 26 r := by
  intro d
  induction d with
  | zero => intro k v u _ _ _ _ h r hr; exact h r hr
  | succ d ih =>
    intro k v u hk hv hu hc h r hr
    show cl_dg d (k + 1) _ 35 r = mo_l3 d (k + 1) p m (64 * q0) _ 26 r
    have hb : ∀ b, b ≠ 26 → b ≠ 27 → b ≠ 28 → mo_blk k p m (64 * q0) u b = u b := fun b h6 h7 h8 => mo_blk_ne h6 h7 h8
    refine ih (k + 1) _ _ (by omega) (fun j hj => by rw [cl_mx_33]; exact hv j hj) (fun z hz j hj => hu z (hz.trans (hb 19 (by decide) (by decide) (by decide))) j hj) (fun t ht => by rw [hb 23 (by decide) (by decide) (by decide)]; exact hc t ht) (fun r hr => ?_) r hr
    exact sh_block (w := fun t => sh_wd pd (64 * k + 4 * t)) (fun t ht => sh_w_wd hpd hv (by omega)) (fun t ht z hz => mo_l5_wd (fun z' hz' j hj => hu z' (hz'.trans hz) j (by omega)) ht) hc h r hr
theorem cl_sq_at {d k : Nat} {u : ww_U} (h : ∀ r, r < k → u 35 r = ww_sq r) : ∀ r, r < k + d → cl_sq d k u 35 r = ww_sq r := by
  induction d generalizing k u with
  | zero => intro r hr; exact h r (by omega)
  | succ d ih =>
    intro r hr
    show cl_sq d (k + 1) _ 35 r = _
    refine ih (fun r hr => ?_) r (by omega)
    rw [ww_up_at]
    split
    · next e => rw [e]
    · exact h r (by omega)
theorem mo_l2_at {d k : Nat} {u : ww_U} (h : ∀ r, r < k → u 26 r = u 22 r) : ∀ r, r < k + d → mo_l2 d k u 26 r = u 22 r := by
  induction d generalizing k u with
  | zero => intro r hr; exact h r (by omega)
  | succ d ih =>
    intro r hr
    show mo_l2 d (k + 1) _ 26 r = _
    rw [ih (fun r hr => ?_) r (by omega), ww_up_ne (by decide)]
    rw [ww_up_at, ww_up_ne (show (22 : Nat) ≠ 26 by decide)]
    split
    · next e => rw [e]
    · exact h r (by omega)
/-- the digest's words, both sides -/
theorem digest_words {v u : ww_U} {m p : Nat} (hm : m ≤ 256) (ho : ∀ j, j < m → u 19 (256 * p + j) = v 31 j &&& 255) (hs : ∀ t, t < 8 → u 22 t = ww_sq t) (hc : ∀ t, t < 64 → u 23 t = ww_cu t) :
    ∀ r, r < 8 → cl_digest m v 35 r = mo_l3 ((m + 72) / 64) 0 p m (64 * ((m + 72) / 64)) (mo_l2 8 0 u) 26 r := by
  intro r hr
  have hT : cl_T m = (m + 8 + 64) / 64 * 64 := rfl
  have hq : cl_T m / 64 = (m + 72) / 64 := by omega
  have hT2 : cl_T m = 64 * ((m + 72) / 64) := by omega
  unfold cl_digest
  rw [hq]
  refine dg_eq (pd := sh_pd (fun j => (v 31 j).toBitVec.toNat % 256) m (cl_T m)) (fun j => sh_pd_lt (fun j _ => Nat.mod_lt _ (by decide))) ((m + 72) / 64) 0 _ _ (by omega) (fun j hj => ?_) (fun z hz j hj => ?_) (fun t ht => ?_) (fun r hr => ?_) r hr
  · rw [cl_sq_ne (by decide)]
    exact cl_byte hm j (by omega)
  · rw [← hT2]
    refine mo_byte hm (by omega) (fun j hj => ?_)
    rw [hz, mo_l2_ne (by decide), ho j hj]
    exact pk_and (v 31 j) 8 (by decide)
  · rw [mo_l2_ne (by decide)]; exact hc t ht
  · rw [cl_sq_at (k := 0) (fun r hr => absurd hr (by omega)) r (by omega), mo_l2_at (k := 0) (fun r hr => absurd hr (by omega)) r (by omega), hs r hr]
