/-! a new controller, the digest's octets, the start; what each call leaves alone; what the contracts ask -/
theorem re_ctl {n P : Nat} {v u : ww_U} {hw : Int32} (h : Rel n P v u) (hn8 : n < 8) (h1 : ¬ hw < 1) (h2 : hw ≤ 127) : (mo_ctl n u hw).2 = nI (n + 1) ∧ Rel (n + 1) P (cu_new v n hw) (mo_ctl n u hw).1 := by
  have h := Rel_z h
  unfold mo_ctl
  generalize mo_z u = u at h ⊢
  rw [if_neg h1, if_pos h2, if_neg (by omega)]
  refine ⟨rfl, ?_⟩
  show Rel (n + 1) P (cu_new v n hw) (ww_up (ww_up (ww_up u 0 1 (nI (n + 1))) 1 (n + 1) hw) 7 (n + 1) (-1))
  obtain ⟨g, lg, tt, tr, tn, tf, tc⟩ := h
  obtain ⟨hh, e1, e2⟩ : ∃ hh, hw = nI hh ∧ (1 ≤ hh ∧ hh ≤ 127) := by
    obtain ⟨k, k1, rfl⟩ := nI_of (x := hw) (fun z => h1 (by rw [Int32.lt_iff_toInt_lt] at z ⊢; have a : (0 : Int32).toInt = 0 := rfl; have b : (1 : Int32).toInt = 1 := rfl; omega))
    refine ⟨k, rfl, ?_, (nI_leI (b := 127) k1 (by decide)).mp h2⟩
    exact Decidable.byContradiction (fun z => h1 (nI_lt (a := k) (b := 1) (by omega) (by decide)))
  have cn : ∀ a b, a ≠ 29 → a < 36 + 8 * n → cu_new v n hw a b = v a b := by
    intro a b a1 a2
    unfold cu_new
    rw [if_neg a1, if_neg (by omega), if_neg (by omega)]
  have cz : ∀ a b, 36 + 8 * n < a → cu_new v n hw a b = 0 := by
    intro a b a1
    unfold cu_new
    rw [if_neg (by omega), if_neg (by omega), if_pos (by omega)]
  have ck : ∀ b, cu_new v n hw (kC n) b = if b = 0 then hw else 0 := by
    intro b
    unfold cu_new
    rw [if_neg (by simp only [kC]; omega), if_pos rfl]
  have c29 : ∀ b, cu_new v n hw 29 b = if b = 1 then nI (n + 1) else v 29 b := by
    intro b
    unfold cu_new upd
    rw [if_pos rfl]
  have uN : ∀ a b, ¬ (a = 0 ∧ b = 1) → ¬ ((a = 1 ∨ a = 7) ∧ b = n + 1) → ww_up (ww_up (ww_up u 0 1 (nI (n + 1))) 1 (n + 1) hw) 7 (n + 1) (-1) a b = u a b := by
    intro a b a1 a2
    rw [ww_n (by omega), ww_n (by omega), ww_n (by omega)]
  have u1 : ww_up (ww_up (ww_up u 0 1 (nI (n + 1))) 1 (n + 1) hw) 7 (n + 1) (-1) 1 (n + 1) = hw := by rw [ww_n (by omega), ww_e rfl rfl]
  have u7 : ww_up (ww_up (ww_up u 0 1 (nI (n + 1))) 1 (n + 1) hw) 7 (n + 1) (-1) 7 (n + 1) = -1 := ww_e rfl rfl
  have u01 : ww_up (ww_up (ww_up u 0 1 (nI (n + 1))) 1 (n + 1) hw) 7 (n + 1) (-1) 0 1 = nI (n + 1) := by rw [ww_n (by omega), ww_n (by omega), ww_e rfl rfl]
  generalize ww_up (ww_up (ww_up u 0 1 (nI (n + 1))) 1 (n + 1) hw) 7 (n + 1) (-1) = u' at *
  generalize cu_new v n hw = v' at *
  obtain ⟨⟨a1, a2, a3, a4, a5, a6⟩, ⟨g0, b1, b2, b3, b4⟩, th, td⟩ := tt
  refine ⟨g, Lg_ctl lg, ⟨⟨by omega, a2, ?_, u01, ?_, ?_⟩, ⟨g0, b1, ?_, ?_, fun j hj => ?_⟩, ?_, ?_⟩, ⟨fun c hc => ?_, fun p hp => ?_, ?_⟩, fun c h1 h2 => ?_, fun p h1 h2 => ?_, fun i hi => ?_⟩
  · rw [c29, if_pos rfl]
  · rw [c29, if_neg (by decide)]; exact a5
  · rw [uN 0 12 (by omega) (by omega)]; exact a6
  · rw [c29, if_neg (by decide)]; exact b2
  · rw [uN 0 22 (by omega) (by omega)]; exact b3
  · rw [uN 20 j (by omega) (by omega), cn 31 j (by decide) (by omega)]; exact b4 j hj
  · unfold TH at *
    rw [c29, c29, if_neg (by decide), if_neg (by decide), uN 0 26 (by omega) (by omega), uN 0 27 (by omega) (by omega)]; exact th
  · unfold TD cl_oct at *
    rw [uN 0 24 (by omega) (by omega)]
    refine ⟨td.1, fun z => ⟨(td.2.1 z).1, fun i hi => ?_⟩, fun t ht => ?_, fun t ht => ?_⟩
    · rw [cn 35 _ (by decide) (by omega), uN 21 _ (by omega) (by omega)]; exact (td.2.1 z).2 i hi
    · rw [uN 22 _ (by omega) (by omega)]; exact td.2.2.1 t ht
    · rw [uN 23 _ (by omega) (by omega)]; exact td.2.2.2 t ht
  · rw [uN 4 c (by omega) (by omega), uN 2 c (by omega) (by omega)]; exact tr.1 c hc
  · rw [uN 11 p (by omega) (by omega), uN 17 p (by omega) (by omega), uN 14 p (by omega) (by omega), uN 16 p (by omega) (by omega)]; exact tr.2.1 p hp
  · rw [uN 0 28 (by omega) (by omega)]; exact tr.2.2
  · have z := tn c (by omega) h2
    rw [uN 3 c (by omega) (by omega), uN 5 c (by omega) (by omega), uN 6 c (by omega) (by omega)]
    exact ⟨z.1, z.2.1, z.2.2.1, fun b hb => by rw [uN 9 _ (by omega) (by omega)]; exact ⟨(z.2.2.2 b hb).1, fun j' hj' => by rw [uN 10 _ (by omega) (by omega)]; exact (z.2.2.2 b hb).2 j' hj'⟩⟩
  · rw [uN 15 p (by omega) (by omega), uN 18 p (by omega) (by omega)]; exact tf p h1 h2
  · rcases Nat.lt_or_ge i n with c | c
    · obtain ⟨ta, tb, tk, tp⟩ := TC_v (v' := v') (fun a b hb => cn a b (by unfold blk at hb; omega) (by unfold blk at hb; omega)) (tc i c)
      exact ⟨TA_u (fun a ha => uN a _ (by omega) (by omega)) ta, TB_u (fun b hb => uN 9 _ (by omega) (by omega)) (fun b j hb hj => uN 10 _ (by omega) (by omega)) tb, tk, TP_u rfl (fun _ => TQ_u (uN 12 _ (by omega) (by omega)) (uN 13 _ (by omega) (by omega)) (uN 15 _ (by omega) (by omega)) (uN 18 _ (by omega) (by omega)) (fun _ _ => uN 19 _ (by omega) (by omega)) rfl rfl) tp⟩
    · have c : i = n := by omega
      subst c
      have z := tn (i + 1) (by omega) (by omega)
      obtain ⟨z0, z5, z7, z8, z9⟩ := lg.2.2.2.2.2.2.2.2.2.2.2.1 (i + 1) (Or.inr (by omega))
      refine ⟨⟨⟨hh, e2.1, e2.2, ?_, ?_⟩, ?_, ?_, ?_, fun _ => u7, fun y => absurd (by rw [ck, if_neg (by decide)]) y⟩, fun b hb => ⟨?_, fun j hj => ⟨?_, ?_⟩⟩, ⟨?_, ?_, fun b hb => ?_⟩, fun _ => cz _ _ (by simp only [kP]; omega), fun y => absurd z0 y⟩
      · rw [ck, if_pos rfl]; exact e1
      · rw [u1]; exact e1
      · rw [ck, if_neg (by decide), uN 3 _ (by omega) (by omega)]; exact z.1.symm
      · rw [ck, if_neg (by decide), uN 5 _ (by omega) (by omega)]; exact z.2.1.symm
      · rw [ck, if_neg (by decide), uN 6 _ (by omega) (by omega)]; exact z.2.2.1.symm
      · rw [cz _ _ (by simp only [kB]; omega), uN 9 _ (by omega) (by omega)]; exact (z.2.2.2 b hb).1.symm
      · rw [cz _ _ (by simp only [kO]; omega), uN 10 _ (by omega) (by omega), (z.2.2.2 b hb).2 j hj]; rfl
      · rw [cz _ _ (by simp only [kO]; omega)]; rfl
      · rw [ck, if_neg (by decide), z5]; rfl
      · rw [ck, if_neg (by decide), z7]; rfl
      · rw [cz _ _ (by simp only [kB]; omega)]
        rcases (show b = 0 ∨ b = 1 by omega) with e | e
        · subst e; rw [Nat.add_zero, z8]; rfl
        · subst e; rw [z9]; rfl
def v_0 : ww_U := fun a b => if a = 29 ∧ (b = 5 ∨ b = 6) then 1 else 0
theorem re_0 {v u : ww_U} (hv : ∀ a b, 29 ≤ a → v a b = v_0 a b) (hu : ∀ a b, a < 29 → u a b = mo_u0 a b) : Rel 0 0 v u := by
  obtain ⟨m1, m2, m3⟩ := mo_u0_ok
  refine Rel_congr (v := v_0) (u := mo_u0) (fun a b h => hv a b h) (fun a b h _ => hu a b h) ⟨fun _ _ => 0, Lg_0, ⟨⟨by omega, by omega, rfl, m3 _ _ (by decide) (by decide) (by decide) (by decide), rfl, m3 _ _ (by decide) (by decide) (by decide) (by decide)⟩, ⟨0, by omega, rfl, m3 _ _ (by decide) (by decide) (by decide) (by decide), fun j hj => by omega⟩, ⟨?_, ?_⟩, ⟨fun _ => m3 _ _ (by decide) (by decide) (by decide) (by decide), fun z => absurd rfl z, m1, m2⟩⟩, ⟨fun c _ => ⟨m3 _ _ (by decide) (by decide) (by decide) (by decide), m3 _ _ (by decide) (by decide) (by decide) (by decide)⟩, fun p _ => ⟨m3 _ _ (by decide) (by decide) (by decide) (by decide), m3 _ _ (by decide) (by decide) (by decide) (by decide), m3 _ _ (by decide) (by decide) (by decide) (by decide), m3 _ _ (by decide) (by decide) (by decide) (by decide)⟩, m3 _ _ (by decide) (by decide) (by decide) (by decide)⟩, fun c _ _ => ⟨m3 _ _ (by decide) (by decide) (by decide) (by decide), m3 _ _ (by decide) (by decide) (by decide) (by decide), m3 _ _ (by decide) (by decide) (by decide) (by decide), fun b _ => ⟨m3 _ _ (by decide) (by decide) (by decide) (by decide), fun j _ => m3 _ _ (by decide) (by decide) (by decide) (by decide)⟩⟩, fun p _ _ => ⟨m3 _ _ (by decide) (by decide) (by decide) (by decide), m3 _ _ (by decide) (by decide) (by decide) (by decide)⟩, fun i hi => by omega⟩
  · exact ⟨fun z => absurd z (by decide), fun z => absurd (m3 _ _ (by decide) (by decide) (by decide) (by decide)) z⟩
  · exact ⟨fun z => absurd z (by decide), fun z => absurd (m3 _ _ (by decide) (by decide) (by decide) (by decide)) z⟩
theorem re_dig {n P i : Nat} {v u : ww_U} (h : Rel n P v u) (hp : ¬ v 29 2 = 0) (hi : i < 32) : nI i < u 0 24 ∧ cl_oct v i = (u 21 i).toInt8.toInt32 := by
  obtain ⟨g, h⟩ := h
  have td := h.2.1.2.2.2
  have z := td.2.1 (fun e => hp (by rw [h.2.1.1.2.2.2.2.1, e]; rfl))
  refine ⟨?_, z.2 i hi⟩
  rw [z.1]; exact nI_lt (b := 32) hi (by decide)
theorem re_dig0 {n P : Nat} {v u : ww_U} {x : Int32} (h : Rel n P v u) (hx : v 29 2 = 0 ∨ x < 0 ∨ ¬ x < 32) : x < 0 ∨ u 0 24 ≤ x := by
  obtain ⟨g, h⟩ := h
  have hn := Rg_n h
  have td := h.2.1.2.2.2
  rcases Decidable.em (x < 0) with c | c
  · exact Or.inl c
  · refine Or.inr ?_
    rcases Decidable.em (P = 0) with e | e
    · rw [td.1 e]; exact Int32.not_lt.mp c
    · rw [(td.2.1 e).1]
      rcases hx with z | z | z
      · rw [h.2.1.1.2.2.2.2.1] at z
        exact absurd z (nI_ne0 (by omega) (by omega))
      · exact absurd z c
      · exact Int32.not_lt.mp z
theorem Rel_go {n P n' P' : Nat} {w w1 w2 : ww_U} (h : Rel n P w w) (f1 : ∀ a b, a < 29 → w1 a b = w a b) (op : Rel n P w w1 → Rel n' P' w1 w2) (f2 : ∀ a b, 29 ≤ a → w2 a b = w1 a b) : Rel n' P' w2 w2 :=
  Rel_congr f2 (fun _ _ _ _ => rfl) (op (Rel_congr (fun _ _ _ => rfl) (fun a b ha _ => f1 a b ha) h))
theorem Rel_c {n P : Nat} {w w1 : ww_U} (h : Rel n P w w) (f1 : ∀ a b, a < 29 → w1 a b = w a b) : Rel n P w w1 := Rel_congr (fun _ _ _ => rfl) (fun a b ha _ => f1 a b ha) h
/-! frames of the class -/
theorem fc_oct {v : ww_U} {x : Int32} {g a b : Nat} (h : a < 29) : cu_octet v x g a b = v a b := by
  unfold cu_octet; split
  · simp (disch := omega) only [ww_n]
  · rfl
theorem fc_cond {v : ww_U} {x z : Int32} {a b : Nat} (h : a < 29) : (cu_cond v x z).1 a b = v a b := by
  unfold cu_cond; split
  · exact ww_n (by omega)
  · split
    · exact ww_n (by omega)
    · rfl
theorem fc_block {v : ww_U} {j : Nat} {y z : Int32} {a b : Nat} (h : a < 29) : (cu_block v j y z).1 a b = v a b := by
  unfold cu_block
  split
  · rfl
  · split
    · rfl
    · split
      · rfl
      · simp (disch := omega) only [kC, ww_n]
theorem fc_it {s : Nat → ww_U → ww_U} (h1 : ∀ i v a b, ¬ blk i a → s i v a b = v a b) {d k : Nat} {v : ww_U} {a b : Nat} (h : a < 29) : bl_it s d k v a b = v a b := bl_fr h1 d k v a b (fun i _ _ z => by unfold blk at z; omega)
theorem fc_lose {v : ww_U} {i a b : Nat} (h : a < 29) : cu_lose v i a b = v a b := by
  unfold cu_lose; split
  · split
    · rfl
    · exact ww_n (by simp only [kP]; omega)
  · rfl
theorem fc_cut : ∀ (d k : Nat) (v : ww_U) (c : Int32) {a b : Nat}, a < 29 → (cu_cut d k v c).1 a b = v a b
  | 0, _, _, _, _, _, _ => rfl
  | d + 1, k, v, c, a, b, h => by
    simp only [cu_cut]
    rw [fc_cut d (k + 1) _ _ h, fc_lose h, ww_n (by simp only [kC]; omega)]
theorem fc_other {v : ww_U} {i a b : Nat} (h : a < 29) : cu_other v i a b = v a b := by
  unfold cu_other; simp (disch := omega) only [kC, ww_n]
theorem fc_switch {v : ww_U} {n i a b : Nat} (h : a < 29) : cu_switch n v i a b = v a b := by
  unfold cu_switch
  split
  · rw [ww_n (by simp only [kP]; omega), fc_other h]
  · rw [mls_it, fc_it (mls_1 _) h, ww_n (by simp only [kP]; omega), fc_other h]
theorem fc_ready {v : ww_U} {n i a b : Nat} (h : a < 29) : (cu_ready n v i).1 a b = v a b := by
  unfold cu_ready
  split
  · split
    · rfl
    · split
      · rfl
      · show cu_com n 0 _ v a b = _
        rw [com_it, fc_it (com_1 _) h]
  · exact fc_switch h
theorem fc_write {v : ww_U} {i b w len a c : Nat} (h : a < 29) : cu_write v i b w len a c = v a c := by
  unfold cu_write
  have e : ∀ d k f, cu_wl d k i b f v a = v a := fun d k f => cu_wl_ne (by simp only [kO]; omega)
  split
  · rw [ww_n (by simp only [kC]; omega), e]
  · split
    · rw [ww_n (by simp only [kP]; omega), e]
    · unfold cu_comp
      rw [ww_n (by simp only [kP]; omega), ww_n (by simp only [kB]; omega), ww_n (by simp only [kB]; omega), cu_zero_ne (by simp only [kO]; omega), ww_n (by simp only [kP]; omega), e]
theorem fc_step {v : ww_U} {n i a b : Nat} (h : a < 29) : (cu_step n v i).1 a b = v a b := by
  unfold cu_step
  split
  · split
    · exact fc_ready h
    · split
      · split
        · rfl
        · exact fc_write h
      · rfl
  · rfl
theorem fc_boot {v : ww_U} {n i a b : Nat} (h : a < 29) : cu_boot n v i a b = v a b := by
  unfold cu_boot
  have e : ww_up v (kC i) 5 0 a b = v a b := ww_n (by simp only [kC]; omega)
  split
  · rfl
  · split
    · split
      · exact e
      · rw [fc_switch h, e]
    · exact e
theorem fc_needs {v : ww_U} {n : Nat} {p q : Int32} {a b : Nat} (h : a < 29) : (cu_needs n v p q).1 a b = v a b := by
  unfold cu_needs
  split
  · rfl
  · split
    · rfl
    · split
      · rfl
      · split
        · split
          · split
            · rw [join_it, fc_it (join_1 _ _) h]
            · rfl
          · rfl
        · rfl
theorem fc_rb {v : ww_U} {n a b : Nat} (h : a < 29) : (cu_rollback n v).1 a b = v a b := by
  unfold cu_rollback
  split
  · rfl
  · split
    · rfl
    · show cu_rb n 0 v a b = _
      rw [rb_it, fc_it rb_1 h]
theorem fc_pack {v : ww_U} {j g : Nat} {ed z : Int32} {a b : Nat} (h : a < 29) : (cu_pack v j ed z g).1 a b = v a b := by
  unfold cu_pack
  split
  · show cu_pk v j ed g a b = _
    unfold cu_pk
    rw [ww_n (by omega), cl_digest_ne (by omega) (by omega) (by omega), cu_beg_ne (by simp only [kP]; omega) (by simp only [kQ]; omega), ww_n (by omega)]
  · rfl
theorem fc_new {v : ww_U} {n : Nat} {hw : Int32} {a b : Nat} (h : a < 29) : cu_new v n hw a b = v a b := by
  unfold cu_new
  rw [if_neg (by omega), if_neg (by omega), if_neg (by omega)]
/-! frames of the reference -/
theorem fm_z {u : ww_U} {a b : Nat} (h : 29 ≤ a) : mo_z u a b = u a b := ww_n (by omega)
theorem fm_ctl {u : ww_U} {n : Nat} {x : Int32} {a b : Nat} (h : 29 ≤ a) : (mo_ctl n u x).1 a b = u a b := by
  unfold mo_ctl
  split
  · exact fm_z h
  · split
    · split
      · exact fm_z h
      · show ww_up _ _ _ _ _ _ = _
        rw [ww_n (by omega), ww_n (by omega), ww_n (by omega), fm_z h]
    · exact fm_z h
theorem fm_oct {u : ww_U} {x : Int32} {g a b : Nat} (h : 29 ≤ a) : mo_oct u x g a b = u a b := by
  unfold mo_oct; split
  · exact fm_z h
  · rw [ww_n (by omega), ww_n (by omega), fm_z h]
theorem fm_block {u : ww_U} {c : Nat} {y z : Int32} {a b : Nat} (h : 29 ≤ a) : (mo_block u c y z).1 a b = u a b := by
  unfold mo_block
  split
  · exact fm_z h
  · split
    · exact fm_z h
    · split
      · exact fm_z h
      · show ww_up _ _ _ _ _ _ = _
        rw [ww_n (by omega), ww_n (by omega), fm_z h]
theorem fm_cond {u : ww_U} {x z : Int32} {a b : Nat} (h : 29 ≤ a) : (mo_cond u x z).1 a b = u a b := by
  unfold mo_cond
  split
  · exact fm_z h
  · split
    · split
      · show ww_up _ _ _ _ _ _ = _
        rw [ww_n (by omega), fm_z h]
      · show ww_up _ _ _ _ _ _ = _
        rw [ww_n (by omega), fm_z h]
    · exact fm_z h
theorem fm_needs {u : ww_U} {P p q : Nat} {a b : Nat} (h : 29 ≤ a) : (mo_needs P u p q).1 a b = u a b := by
  unfold mo_needs
  split
  · exact fm_z h
  · split
    · exact fm_z h
    · split
      · exact fm_z h
      · split
        · split
          · rw [(nl_at P 1 (mo_z u) 0 rfl).1, if_neg (by omega), fm_z h]
          · exact fm_z h
        · exact fm_z h
theorem fm_change {u : ww_U} {P c p : Nat} {a b : Nat} (h : 29 ≤ a) : mo_change P u c p a b = u a b := by
  unfold mo_change
  split
  · rw [ww_n (by omega), mo_sw_n (by omega)]
  · rw [mo_chl_n _ _ _ _ _ (Or.inl (by omega)), ww_n (by omega), ww_n (by omega), mo_sw_n (by omega)]
theorem fm_write {u : ww_U} {q p b w len a c : Nat} (h : 29 ≤ a) : mo_write u q p b w len a c = u a c := by
  unfold mo_write
  split
  · rw [ww_n (by omega), mo_wl_n (by omega)]
  · split
    · rw [ww_n (by omega), mo_wl_n (by omega)]
    · unfold mo_fin
      rw [ww_n (by omega), ww_n (by omega), ww_n (by omega), mo_zl_n (by omega), ww_n (by omega), mo_wl_n (by omega)]
theorem fm_step {u : ww_U} {P q a b : Nat} (h : 29 ≤ a) : (mo_step P u q).1 a b = u a b := by
  unfold mo_step mo_stp
  split
  · exact fm_z h
  · split
    · split
      · exact fm_z h
      · show mo_wrt _ _ _ _ = _
        unfold mo_wrt
        rw [fm_write h, fm_z h]
    · split
      · split
        · show ww_up _ _ _ _ _ _ = _
          rw [ww_n (by omega), fm_z h]
        · show mo_change _ _ _ _ _ _ = _
          rw [fm_change h, fm_z h]
      · exact fm_z h
theorem fm_boot {u : ww_U} {P q a b : Nat} (h : 29 ≤ a) : mo_boot P u q a b = u a b := by
  unfold mo_boot mo_bt
  have e : ww_up (mo_z u) 5 q 0 a b = u a b := by rw [ww_n (by omega), fm_z h]
  split
  · exact e
  · split
    · split
      · exact e
      · rw [fm_change h, e]
    · exact e
theorem fm_cl {u : ww_U} {c a b : Nat} (h : 29 ≤ a) : mo_cl u c a b = u a b := by
  unfold mo_cl
  have e : ww_up u 5 c 1 a b = u a b := ww_n (by omega)
  split
  · split
    · exact e
    · rw [ww_n (by omega), e]
  · exact e
theorem fm_cut : ∀ (d k : Nat) (u : ww_U) (c : Int32) {a b : Nat}, 29 ≤ a → (mo_cut d k u c).1 a b = u a b
  | 0, _, _, _, _, _, _ => rfl
  | d + 1, k, u, c, a, b, h => by
    simp only [mo_cut]
    rw [fm_cut d (k + 1) _ _ h, fm_cl h]
theorem fm_rb {u : ww_U} {P a b : Nat} (h : 29 ≤ a) : (mo_rollback P u).1 a b = u a b := by
  unfold mo_rollback
  generalize mo_rm P 1 (mo_z u) (if u 0 28 ≤ 0 then 0 else 1) = R
  split
  · exact fm_z h
  · show ww_up _ _ _ _ _ _ = _
    rw [ww_n (by omega), mo_rl_n _ _ _ _ _ (Or.inl (by omega)), fm_z h]
theorem fm_pack {u : ww_U} {q P g : Nat} {ed z : Int32} {a b : Nat} (h : 29 ≤ a) : (mo_pack u q P g ed z).1 a b = u a b := by
  unfold mo_pack
  split
  · show mo_pk _ _ _ _ _ _ _ = _
    unfold mo_pk
    rw [mo_dig_ne (by omega) (by omega) (by omega) (by omega) (by omega), ww_n (by omega), mo_cp_ne (by omega)]
    unfold mo_new mo_out
    simp (disch := omega) only [ww_n]
    split
    · exact fm_z h
    · rw [ww_n (by omega), fm_z h]
  · exact fm_z h
/-! what the contracts ask -/
theorem as_n {n P : Nat} {v u : ww_U} (h : Rel n P v u) : n ≤ 8 ∧ P ≤ 60 ∧ v 29 1 = nI n ∧ u 0 1 = nI n ∧ v 29 2 = nI P ∧ u 0 12 = nI P := by
  obtain ⟨g, h⟩ := h; exact h.2.1.1
theorem as_run {n P : Nat} {v u : ww_U} (h : Rel n P v u) : cu_run n v := by
  obtain ⟨g, h⟩ := h
  exact fun i hi => ⟨g 5 (i + 1), Lg_5 h.1, (h.2.2.2.2.2 i hi).2.2.1.1⟩
theorem as_wr {n P j : Nat} {v u : ww_U} (h : Rel n P v u) (hj : j < n) : cu_wr v j := by
  obtain ⟨g, h⟩ := h
  intro c
  obtain ⟨h0, h3⟩ := st_k (k := 1) h hj (by omega) (by omega) c
  obtain ⟨w, len, e1, e2, e3, e4, e5, e6, e7⟩ := ((h.2.2.2.2.2 j hj).2.2.2.2 h0).2.2.2.2.2 h3
  exact ⟨w, len, e1, e3, e5, e6⟩
theorem as_mwr {n P j : Nat} {v u : ww_U} (h : Rel n P v u) (hj : j < n) : mo_wr u (j + 1) := by
  obtain ⟨g, h⟩ := h
  intro c
  have hn := Rg_n h
  rw [← st_eq h hj] at c
  obtain ⟨h0, h3⟩ := st_k (k := 1) h hj (by omega) (by omega) c
  obtain ⟨w, len, e1, e2, e3, e4, e5, e6, e7⟩ := ((h.2.2.2.2.2 j hj).2.2.2.2 h0).2.2.2.2.2 h3
  rw [rd_4 h (c := j + 1) (by omega)]
  exact ⟨w, len, e2, e4, e5, e6⟩
theorem as_of {n P : Nat} {v u : ww_U} (h : Rel n P v u) : mo_of u := by
  obtain ⟨g, h⟩ := h
  intro p hp
  have z := rd_11 h (p := p) hp
  unfold mo_rd at z
  refine ⟨by rw [z.1]; exact (h.2.2.1.2.1 p hp).1, by rw [z.1]; exact z.2⟩
theorem as_se {n P : Nat} {v u : ww_U} (h : Rel n P v u) : mo_se u := by
  obtain ⟨g, h⟩ := h
  intro p hp
  have z := rd_17 h (p := p) hp
  unfold mo_rd at z
  refine ⟨by rw [z.1]; exact (h.2.2.1.2.1 p hp).2.1, by rw [z.1]; exact z.2⟩
theorem as_opn {n P : Nat} {v u : ww_U} (h : Rel n P v u) : mo_opn u := by
  obtain ⟨g, h⟩ := h
  intro c hc
  have hn := Rg_n h
  have z := rd_4 h (c := c) hc
  have b : g 0 c ≤ P := by
    rcases Decidable.em (1 ≤ c ∧ c ≤ n) with z | z
    · exact (h.1.1 c z.1 z.2).1
    · have := (h.1.2.2.2.2.2.2.2.2.2.2.2.1 c (by omega)).1
      omega
  unfold mo_rd at z
  refine ⟨by rw [z]; exact (h.2.2.1.1 c hc).1, by omega⟩
theorem as_ru {n P : Nat} {v u : ww_U} (h : Rel n P v u) : mo_ru u := by
  obtain ⟨g, h⟩ := h
  intro c hc
  have z := rd_2 h (c := c) hc
  have b := Lg_5 (c := c) h.1
  unfold mo_rd at z
  refine ⟨by rw [z]; exact (h.2.2.1.1 c hc).2, by omega⟩
theorem re_cut0 {n P : Nat} {v u : ww_U} (h : Rel n P v u) : (cu_cut n 0 v 0).2 = (mo_cut n 1 (mo_z u) 0).2 ∧ Rel n P (cu_cut n 0 v 0).1 (mo_cut n 1 (mo_z u) 0).1 := by
  obtain ⟨g, h⟩ := Rel_z h
  have z := re_cut n 0 v (mo_z u) 0 (by omega) h
  exact ⟨z.1, g, z.2⟩
