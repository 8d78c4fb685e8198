/-! rows on bits, out of kit/laws/BITS.to-paste (families 'Int32 by its bits', 'a byte read unsigned') -/
def bt (x : Int32) (i : Nat) : Bool := x.toBitVec.getLsbD i
theorem b_ext {x y : Int32} (h : ∀ i, i < 32 → bt x i = bt y i) : x = y := Int32.toBitVec_inj.mp (BitVec.eq_of_getLsbD_eq (fun i hi => h i hi))
theorem b_or (x y : Int32) (i : Nat) : bt (x ||| y) i = (bt x i || bt y i) := by unfold bt; rw [Int32.toBitVec_or, BitVec.getLsbD_or]
theorem b_and (x y : Int32) (i : Nat) : bt (x &&& y) i = (bt x i && bt y i) := by unfold bt; rw [Int32.toBitVec_and, BitVec.getLsbD_and]
theorem b_xor (x y : Int32) (i : Nat) : bt (x ^^^ y) i = (bt x i ^^ bt y i) := by unfold bt; rw [Int32.toBitVec_xor, BitVec.getLsbD_xor]
theorem b_m1 : ∀ i, i < 32 → bt (-1) i = true := by decide +kernel
theorem bp_b (x : Int32) : x.toInt8.toInt32 &&& 255 = x &&& 255 := by
  apply Int32.toBitVec_inj.mp
  rw [Int32.toBitVec_and, Int32.toBitVec_and, Int8.toBitVec_toInt32, Int32.toBitVec_toInt8]
  apply BitVec.eq_of_getLsbD_eq
  intro i hi
  rw [BitVec.getLsbD_and, BitVec.getLsbD_and]
  have hm : ∀ i < 32, 8 ≤ i → (255 : Int32).toBitVec.getLsbD i = false := by decide
  rcases Nat.lt_or_ge i 8 with z | z
  · rw [BitVec.getLsbD_signExtend, BitVec.getLsbD_signExtend, if_pos z, if_pos hi]
    simp [z, hi]
  · rw [hm i hi z]; simp
/-! the two ways of choosing, and of the most -/
theorem sh_ch (e f g : Int32) : ((e &&& f) ||| ((e ^^^ (-1)) &&& g)) = ((e &&& f) ^^^ ((e ^^^ (-1)) &&& g)) := by
  apply b_ext
  intro i hi
  rw [b_or, b_xor, b_and, b_and, b_xor, b_m1 i hi]
  cases bt e i <;> cases bt f i <;> cases bt g i <;> rfl
theorem sh_mj (a b c : Int32) : (((a &&& b) ||| (a &&& c)) ||| (b &&& c)) = (((a &&& b) ^^^ (a &&& c)) ^^^ (b &&& c)) := by
  apply b_ext
  intro i hi
  rw [b_or, b_or, b_xor, b_xor, b_and, b_and, b_and]
  cases bt a i <;> cases bt b i <;> cases bt c i <;> rfl
/-! words -/
theorem nx_or (a b : Nat) : nI a ||| nI b = nI (a ||| b) := by
  apply Int32.toBitVec_inj.1
  show BitVec.ofNat 32 a ||| BitVec.ofNat 32 b = BitVec.ofNat 32 (a ||| b)
  apply BitVec.eq_of_getLsbD_eq
  intro i hi
  simp [hi]
theorem or_add {a b k : Nat} (h : b < 2 ^ k) : a * 2 ^ k ||| b = a * 2 ^ k + b := by
  rw [Nat.mul_comm]
  exact (Nat.two_pow_add_eq_or_of_lt h a).symm
theorem sh_e2 (x y : Nat) : x * 2 ^ 16 + y * 2 ^ 8 = (x * 256 + y) * 2 ^ 8 := by omega
theorem sh_word {a0 a1 a2 a3 : Nat} (h0 : a0 < 256) (h1 : a1 < 256) (h2 : a2 < 256) (h3 : a3 < 256) :
    (((nI a0 <<< ((24 : Int32) &&& 31)) ||| (nI a1 <<< ((16 : Int32) &&& 31))) ||| (nI a2 <<< ((8 : Int32) &&& 31))) ||| nI a3 = nI (((a0 * 256 + a1) * 256 + a2) * 256 + a3) := by
  rw [pk_shlN _ 24 (by decide) (by omega), pk_shlN _ 16 (by decide) (by omega), pk_shlN _ 8 (by decide) (by omega), nx_or, nx_or, nx_or]
  congr 1
  rw [or_add (a := a0) (b := a1 * 2 ^ 16) (k := 24) (by omega)]
  have e1 : a0 * 2 ^ 24 + a1 * 2 ^ 16 = (a0 * 256 + a1) * 2 ^ 16 := by omega
  rw [e1, or_add (a := a0 * 256 + a1) (b := a2 * 2 ^ 8) (k := 16) (by omega)]
  have e2 : (a0 * 256 + a1) * 2 ^ 16 + a2 * 2 ^ 8 = ((a0 * 256 + a1) * 256 + a2) * 2 ^ 8 := by
    exact sh_e2 _ _
  rw [e2, or_add (a := (a0 * 256 + a1) * 256 + a2) (b := a3) (k := 8) (by omega)]
/-! the schedule -/
def sh_S (w : Nat → Int32) (t : Nat) : Int32 := if h : t < 16 then w t else ((sh_S w (t - 16) + sh_sp (sh_S w (t - 15)) 7 18 3) + sh_S w (t - 7)) + sh_sp (sh_S w (t - 2)) 17 19 10
termination_by t
decreasing_by all_goals omega
theorem sh_S_lo {w : Nat → Int32} {t : Nat} (h : t < 16) : sh_S w t = w t := by unfold sh_S; rw [dif_pos h]
theorem sh_S_hi {w : Nat → Int32} {t : Nat} (h : ¬ t < 16) : sh_S w t = ((sh_S w (t - 16) + sh_sp (sh_S w (t - 15)) 7 18 3) + sh_S w (t - 7)) + sh_sp (sh_S w (t - 2)) 17 19 10 := by
  conv => lhs; unfold sh_S
  rw [dif_neg h]
theorem ww_up_c {u : ww_U} {k j b : Nat} {x : Int32} : ww_up u k j x k b = if b = j then x else u k b := ww_up_at
theorem cl_f1_at {d k f : Nat} {u : ww_U} {w : Nat → Int32} (hw : ∀ t, t < 16 → sh_w u (f + 4 * t) = w t) (hk : k + d ≤ 16) (h : ∀ t, t < k → u 34 t = w t) : ∀ t, t < k + d → cl_f1 d k f u 34 t = w t := by
  induction d generalizing k u with
  | zero => intro t ht; exact h t (by omega)
  | succ d ih =>
    intro t ht
    show cl_f1 d (k + 1) f _ 34 t = _
    refine ih (fun t ht => ?_) (by omega) (fun t ht => ?_) t (by omega)
    · rw [← hw t ht]
      unfold sh_w
      rw [ww_up_ne (show (33 : Nat) ≠ 34 by decide)]
    · rw [ww_up_at]
      split
      · next e => rw [e, hw k (by omega)]
      · exact h t (by omega)
theorem cl_f2_at {d k : Nat} {u : ww_U} {w : Nat → Int32} (hk16 : 16 ≤ k) (h : ∀ t, t < k → u 34 t = sh_S w t) : ∀ t, t < k + d → cl_f2 d k u 34 t = sh_S w t := by
  induction d generalizing k u with
  | zero => intro t ht; exact h t (by omega)
  | succ d ih =>
    intro t ht
    show cl_f2 d (k + 1) _ 34 t = _
    refine ih (by omega) (fun t ht => ?_) t (by omega)
    rw [ww_up_at]
    split
    · next e => rw [e, sh_S_hi (t := k) (by omega), h (k - 16) (by omega), h (k - 15) (by omega), h (k - 7) (by omega), h (k - 2) (by omega)]
    · exact h t (by omega)
theorem cl_fill_at {f : Nat} {u : ww_U} {w : Nat → Int32} (hw : ∀ t, t < 16 → sh_w u (f + 4 * t) = w t) : ∀ t, t < 64 → cl_fill f u 34 t = sh_S w t := by
  intro t ht
  unfold cl_fill
  refine cl_f2_at (Nat.le_refl _) (fun t ht => ?_) t (by omega)
  rw [cl_f1_at hw (by omega) (fun t ht => by omega) t (by omega), sh_S_lo ht]
theorem mo_l4_at {d k p len a w0 : Nat} {u : ww_U} {w : Nat → Int32} (hw : ∀ t, t < 16 → ∀ v : ww_U, v 19 = u 19 → mo_l5 4 0 t p len a w0 (ww_up v 27 t 0) 27 t = w t) (h : ∀ t, t < k → u 27 t = sh_S w t) : ∀ t, t < k + d → mo_l4 d k p len a w0 u 27 t = sh_S w t := by
  induction d generalizing k u with
  | zero => intro t ht; exact h t (by omega)
  | succ d ih =>
    intro t ht
    show mo_l4 d (k + 1) p len a w0 _ 27 t = _
    have h19 : mo_l4s k p len a w0 u 19 = u 19 := by
      unfold mo_l4s
      split
      · rw [mo_l5_ne (by decide), ww_up_ne (by decide)]
      · rw [ww_up_ne (by decide)]
    have hk : ∀ d k (v : ww_U) (t j : Nat), j ≠ t → mo_l5 d k t p len a w0 v 27 j = v 27 j := by
      intro d
      induction d with
      | zero => intro k v t j hj; rfl
      | succ d ih2 => intro k v t j hj; show mo_l5 d (k + 1) t p len a w0 _ 27 j = _; rw [ih2 (k + 1) _ t j hj, ww_up_nj hj]
    refine ih (fun t ht v hv => hw t ht v (hv.trans h19)) (fun t ht => ?_) t (by omega)
    unfold mo_l4s
    split
    · next hk16 =>
      by_cases e : t = k
      · subst e; rw [hw t hk16 u rfl, sh_S_lo hk16]
      · rw [hk 4 0 _ k t e, ww_up_nj e]; exact h t (by omega)
    · next hk16 =>
      rw [ww_up_at]
      split
      · next e =>
        rw [e, sh_S_hi (t := k) hk16, h (k - 16) (by omega), h (k - 15) (by omega), h (k - 7) (by omega), h (k - 2) (by omega)]
        ac_rfl
      · exact h t (by omega)
/-! the rounds -/
def sh_stp (S : Nat → Int32) (k : Nat) (R : Nat → Int32) (r : Nat) : Int32 := if r = 0 then sh_x (R 7) (R 4) (R 5) (R 6) (ww_cu k) (S k) + sh_y (R 0) (R 1) (R 2) else if r = 4 then R 3 + sh_x (R 7) (R 4) (R 5) (R 6) (ww_cu k) (S k) else R (r - 1)
def sh_rg : Nat → Nat → (Nat → Int32) → (Nat → Int32) → Nat → Int32
  | 0, _, _, R => R
  | d + 1, k, S, R => sh_rg d (k + 1) S (sh_stp S k R)
def cl_adds (u : ww_U) (R : Nat → Int32) : ww_U := cl_add (cl_add (cl_add (cl_add (cl_add (cl_add (cl_add (cl_add u 0 (R 0)) 1 (R 1)) 2 (R 2)) 3 (R 3)) 4 (R 4)) 5 (R 5)) 6 (R 6)) 7 (R 7)
theorem cl_mix_rg {q k : Nat} {u : ww_U} {R : Nat → Int32} : cl_mix q k u (R 0) (R 1) (R 2) (R 3) (R 4) (R 5) (R 6) (R 7) = cl_adds u (sh_rg q k (u 34) R) := by
  induction q generalizing k R with
  | zero => rfl
  | succ q ih => exact ih (k := k + 1) (R := sh_stp (u 34) k R)
theorem cl_adds_at {u : ww_U} {R : Nat → Int32} : ∀ r, r < 8 → cl_adds u R 35 r = u 35 r + R r := by
  intro r hr
  unfold cl_adds cl_add
  rcases (show r = 0 ∨ r = 1 ∨ r = 2 ∨ r = 3 ∨ r = 4 ∨ r = 5 ∨ r = 6 ∨ r = 7 by omega) with rfl | rfl | rfl | rfl | rfl | rfl | rfl | rfl <;> simp [ww_up_at]
set_option maxRecDepth 20000 in
theorem mo_m8_eq : ∀ r, r < 8 → ∀ k, k < 65 → mo_m8 (nI r - nI k) = (r + 72 - k) % 8 := by decide +kernel
theorem sh_rg_congr {d k : Nat} {S : Nat → Int32} {R R' : Nat → Int32} (h : ∀ r, r < 8 → R r = R' r) : ∀ r, r < 8 → sh_rg d k S R r = sh_rg d k S R' r := by
  induction d generalizing k R R' with
  | zero => exact h
  | succ d ih =>
    refine ih (fun r hr => ?_)
    unfold sh_stp
    rw [h 0 (by omega), h 1 (by omega), h 2 (by omega), h 3 (by omega), h 4 (by omega), h 5 (by omega), h 6 (by omega), h 7 (by omega), h (r - 1) (by omega)]
def mo_reg (u : ww_U) (k r : Nat) : Int32 := u 28 ((r + 72 - k) % 8)
theorem mo_at_reg {u : ww_U} {k r : Nat} (hr : r < 8) (hk : k < 65) {x : Int32} (hx : x = nI r) : mo_at u x k = mo_reg u k r := by
  unfold mo_at mo_reg
  rw [hx, mo_m8_eq r hr k hk]
theorem mo_rnd_reg {u : ww_U} {k : Nat} (hk : k < 64) (hc : u 23 k = ww_cu k) : ∀ r, r < 8 → mo_reg (mo_rnd u k) (k + 1) r = sh_stp (u 27) k (mo_reg u k) r := by
  intro r hr
  have g0 : mo_at u 0 k = mo_reg u k 0 := mo_at_reg (r := 0) (by omega) (by omega) rfl
  have g1 : mo_at u 1 k = mo_reg u k 1 := mo_at_reg (r := 1) (by omega) (by omega) rfl
  have g2 : mo_at u 2 k = mo_reg u k 2 := mo_at_reg (r := 2) (by omega) (by omega) rfl
  have g4 : mo_at u 4 k = mo_reg u k 4 := mo_at_reg (r := 4) (by omega) (by omega) rfl
  have g5 : mo_at u 5 k = mo_reg u k 5 := mo_at_reg (r := 5) (by omega) (by omega) rfl
  have g6 : mo_at u 6 k = mo_reg u k 6 := mo_at_reg (r := 6) (by omega) (by omega) rfl
  have g7 : mo_at u 7 k = mo_reg u k 7 := mo_at_reg (r := 7) (by omega) (by omega) rfl
  have hxx : mo_x u k = sh_x (mo_reg u k 7) (mo_reg u k 4) (mo_reg u k 5) (mo_reg u k 6) (ww_cu k) (u 27 k) := by
    unfold mo_x sh_x
    rw [g7, g4, g5, g6, sh_ch, hc]
  have hyy : mo_y u k = sh_y (mo_reg u k 0) (mo_reg u k 1) (mo_reg u k 2) := by
    unfold mo_y sh_y
    rw [g0, g1, g2, sh_mj]
  have h3 : mo_at u 3 k = mo_reg u k 3 := mo_at_reg (r := 3) (by omega) (by omega) rfl
  have e3 : mo_m8 (3 - nI k) = (3 + 72 - k) % 8 := mo_m8_eq 3 (by omega) k (by omega)
  have e7 : mo_m8 (7 - nI k) = (7 + 72 - k) % 8 := mo_m8_eq 7 (by omega) k (by omega)
  show mo_rnd u k 28 ((r + 72 - (k + 1)) % 8) = _
  unfold mo_rnd sh_stp
  rw [e3, e7, h3, hxx, hyy, ww_up_at]
  by_cases h0 : r = 0
  · subst h0
    rw [if_pos (by omega), if_pos rfl]
  · rw [if_neg (by omega), if_neg h0, ww_up_at]
    by_cases h4 : r = 4
    · subst h4
      rw [if_pos (by omega), if_pos rfl]
    · rw [if_neg (by omega), if_neg h4]
      unfold mo_reg
      congr 1
      omega
theorem mo_l7_reg {d k : Nat} {u : ww_U} (hk : k + d ≤ 64) (hc : ∀ t, t < 64 → u 23 t = ww_cu t) : ∀ r, r < 8 → mo_reg (mo_l7 d k u) (k + d) r = sh_rg d k (u 27) (mo_reg u k) r := by
  induction d generalizing k u with
  | zero => intro r hr; rfl
  | succ d ih =>
    intro r hr
    show mo_reg (mo_l7 d (k + 1) (mo_rnd u k)) (k + (d + 1)) r = sh_rg d (k + 1) (u 27) _ r
    have hf : ∀ b, b ≠ 28 → mo_rnd u k b = u b := fun b hb => by unfold mo_rnd; rw [ww_up_ne hb, ww_up_ne hb]
    rw [show k + (d + 1) = (k + 1) + d by omega, ih (by omega) (fun t ht => by rw [hf 23 (by decide)]; exact hc t ht) r hr, hf 27 (by decide)]
    exact sh_rg_congr (mo_rnd_reg (by omega) (hc k (by omega))) r hr
theorem mo_l6_at {d k : Nat} {u : ww_U} (h : ∀ r, r < k → u 28 r = u 26 r) : ∀ r, r < k + d → mo_l6 d k u 28 r = u 26 r := by
  induction d generalizing k u with
  | zero => intro r hr; exact h r (by omega)
  | succ d ih =>
    intro r hr
    show mo_l6 d (k + 1) _ 28 r = _
    rw [ih (fun r hr => ?_) r (by omega), ww_up_ne (by decide)]
    rw [ww_up_at, ww_up_ne (show (26 : Nat) ≠ 28 by decide)]
    split
    · next e => rw [e]
    · exact h r (by omega)
theorem mo_l8_at {d k : Nat} {u : ww_U} : ∀ r, mo_l8 d k u 26 r = if k ≤ r ∧ r < k + d then u 26 r + u 28 r else u 26 r := by
  induction d generalizing k u with
  | zero => intro r; rw [if_neg (by omega)]; rfl
  | succ d ih =>
    intro r
    show mo_l8 d (k + 1) _ 26 r = _
    rw [ih r, ww_up_at, ww_up_ne (show (28 : Nat) ≠ 26 by decide)]
    by_cases e : r = k
    · subst e
      rw [if_neg (by omega), if_pos rfl, if_pos (by omega)]
    · rw [if_neg e]
      by_cases h : k + 1 ≤ r ∧ r < k + 1 + d
      · rw [if_pos h, if_pos (by omega)]
      · rw [if_neg h, if_neg (by omega)]
/-- one block, both sides -/
theorem sh_block {v u : ww_U} {k p len w0 : Nat} {w : Nat → Int32} (hv : ∀ t, t < 16 → sh_w v (64 * k + 4 * t) = w t) (hu : ∀ t, t < 16 → ∀ z : ww_U, z 19 = u 19 → mo_l5 4 0 t p len (64 * k) w0 (ww_up z 27 t 0) 27 t = w t) (hc : ∀ t, t < 64 → u 23 t = ww_cu t) (hh : ∀ r, r < 8 → v 35 r = u 26 r) :
    ∀ r, r < 8 → cl_mx (cl_fill (64 * k) v) 35 r = mo_blk k p len w0 u 26 r := by
  intro r hr
  have hf35 : cl_fill (64 * k) v 35 = v 35 := by unfold cl_fill; rw [cl_f2_ne (by decide), cl_f1_ne (by decide)]
  have h1 : cl_mx (cl_fill (64 * k) v) = cl_adds (cl_fill (64 * k) v) (sh_rg 64 0 (cl_fill (64 * k) v 34) (cl_fill (64 * k) v 35)) := cl_mix_rg
  rw [h1, cl_adds_at r hr, hf35]
  have hS : ∀ t, t < 64 → cl_fill (64 * k) v 34 t = sh_S w t := cl_fill_at hv
  have hM : ∀ t, t < 64 → mo_l4 64 0 p len (64 * k) w0 u 27 t = sh_S w t := fun t ht => mo_l4_at (k := 0) (d := 64) hu (fun t ht => absurd ht (by omega)) t (by omega)
  have hcg : ∀ (d k : Nat) (S S' R : Nat → Int32), k + d ≤ 64 → (∀ t, t < 64 → S t = S' t) → sh_rg d k S R = sh_rg d k S' R := by
    intro d
    induction d with
    | zero => intro k S S' R _ _; rfl
    | succ d ih =>
      intro k S S' R hk hS
      show sh_rg d (k + 1) S _ = sh_rg d (k + 1) S' _
      rw [ih (k + 1) S S' _ (by omega) hS]
      congr 1
      funext r
      unfold sh_stp
      rw [hS k (by omega)]
  unfold mo_blk
  rw [mo_l8_at, if_pos (by omega)]
  have h26 : mo_l7 64 0 (mo_l6 8 0 (mo_l4 64 0 p len (64 * k) w0 u)) 26 = u 26 := by rw [mo_l7_ne (by decide), mo_l6_ne (by decide), mo_l4_ne (by decide)]
  rw [h26, hh r hr]
  refine congrArg (fun z => u 26 r + z) ?_
  have hreg := mo_l7_reg (d := 64) (k := 0) (u := mo_l6 8 0 (mo_l4 64 0 p len (64 * k) w0 u)) (by omega) (fun t ht => by rw [mo_l6_ne (by decide), mo_l4_ne (by decide)]; exact hc t ht) r hr
  have e0 : mo_reg (mo_l7 64 0 (mo_l6 8 0 (mo_l4 64 0 p len (64 * k) w0 u))) (0 + 64) r = mo_l7 64 0 (mo_l6 8 0 (mo_l4 64 0 p len (64 * k) w0 u)) 28 r := by
    unfold mo_reg
    rw [show (r + 72 - (0 + 64)) % 8 = r by omega]
  rw [← e0, hreg, mo_l6_ne (show (27 : Nat) ≠ 28 by decide), hcg 64 0 _ _ _ (by omega) hM, hcg 64 0 _ _ _ (by omega) hS]
  refine sh_rg_congr (fun r hr => ?_) r hr
  unfold mo_reg
  rw [show (r + 72 - 0) % 8 = r by omega, mo_l6_at (k := 0) (fun r hr => absurd hr (by omega)) r (by omega), mo_l4_ne (by decide)]
  exact hh r hr
