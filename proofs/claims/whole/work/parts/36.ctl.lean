def cu_new (u : ww_U) (n : Nat) (hw : Int32) : ww_U := fun k => if k = 29 then upd (u 29) 1 (nI (n + 1)) else if k = 36 + 8 * n then (fun j => if j = 0 then hw else 0) else if 36 + 8 * n ≤ k then (fun _ => 0) else u k
def bz (B : Nat → Nat) (N : Nat) (qs : List Nat) : Nat → Nat := fun k => if k < N then B k else qs.getD (k - N) 0
theorem bz_lo {B : Nat → Nat} {N k : Nat} {qs : List Nat} (h : k < N) : bz B N qs k = B k := by unfold bz; rw [if_pos h]
theorem bz_hi {B : Nat → Nat} {N c : Nat} {qs : List Nat} : bz B N qs (N + c) = qs.getD c 0 := by unfold bz; rw [if_neg (by omega), show N + c - N = c by omega]
theorem fm_congr {B B' : Nat → Nat} {f : Nat → Int32} (h : ∀ k, k < 36 → B' k = B k) : ww_fm B' f = ww_fm B f := by
  unfold ww_fm
  rw [h 1 (by omega), h 2 (by omega), h 3 (by omega), h 4 (by omega), h 5 (by omega), h 6 (by omega), h 7 (by omega), h 8 (by omega), h 9 (by omega), h 10 (by omega), h 11 (by omega), h 12 (by omega), h 13 (by omega), h 14 (by omega), h 15 (by omega), h 16 (by omega), h 17 (by omega), h 18 (by omega), h 19 (by omega), h 20 (by omega), h 21 (by omega), h 22 (by omega), h 23 (by omega), h 24 (by omega), h 25 (by omega), h 26 (by omega), h 27 (by omega), h 28 (by omega)]
theorem fu_congr {B B' : Nat → Nat} {f : Nat → Int32} (h : ∀ k, k < 36 → B' k = B k) : ww_fu B' f = ww_fu B f := by
  unfold ww_fu
  rw [h 30 (by omega), h 31 (by omega), h 32 (by omega)]
theorem fd_congr {B B' : Nat → Nat} (h : ∀ k, k < 36 → B' k = B k) : ww_fd B' = ww_fd B := by
  unfold ww_fd
  rw [h 33 (by omega), h 34 (by omega), h 35 (by omega)]
theorem ce_base {ca : Nat → ClassId} {B B' : Nat → Nat} {n n' : Nat} {f : Nat → Int32} (h : ∀ k, k < 36 → B' k = B k) : ∀ k, k < 36 → k ≠ 30 → ww_ce ca B' n' k f = ww_ce ca B n k f := by
  have h0 : ww_ce ca B' n' 0 f = ww_ce ca B n 0 f := by show (Sum.inr (5, ww_fm B' f) : va_E) = .inr (5, ww_fm B f); rw [fm_congr h]
  have h29 : ww_ce ca B' n' 29 f = ww_ce ca B n 29 f := by show (Sum.inr (4, ww_fu B' f) : va_E) = .inr (4, ww_fu B f); rw [fu_congr h]
  have h32 : ww_ce ca B' n' 32 f = ww_ce ca B n 32 f := by show (Sum.inr (2, ww_fd B') : va_E) = .inr (2, ww_fd B); rw [fd_congr h]
  intro k hk h30
  match k, hk, h30 with
  | 0, _, _ => exact h0
  | 1, _, _ => rfl
  | 2, _, _ => rfl
  | 3, _, _ => rfl
  | 4, _, _ => rfl
  | 5, _, _ => rfl
  | 6, _, _ => rfl
  | 7, _, _ => rfl
  | 8, _, _ => rfl
  | 9, _, _ => rfl
  | 10, _, _ => rfl
  | 11, _, _ => rfl
  | 12, _, _ => rfl
  | 13, _, _ => rfl
  | 14, _, _ => rfl
  | 15, _, _ => rfl
  | 16, _, _ => rfl
  | 17, _, _ => rfl
  | 18, _, _ => rfl
  | 19, _, _ => rfl
  | 20, _, _ => rfl
  | 21, _, _ => rfl
  | 22, _, _ => rfl
  | 23, _, _ => rfl
  | 24, _, _ => rfl
  | 25, _, _ => rfl
  | 26, _, _ => rfl
  | 27, _, _ => rfl
  | 28, _, _ => rfl
  | 29, _, _ => exact h29
  | 30, _, h => exact absurd rfl h
  | 31, _, _ => rfl
  | 32, _, _ => exact h32
  | 33, _, _ => rfl
  | 34, _, _ => rfl
  | 35, _, _ => rfl
  | k + 36, h, _ => omega
theorem arrV_congr {cI : ClassId} {N : Nat} {f g : Nat → Value} (h : ∀ j, j < N → f j = g j) : arrV cI N f = arrV cI N g := by
  unfold arrV
  congr 2
  funext j
  exact h j.val j.isLt
theorem ce_ctl_at {D : va_G} {H : Heap} {a : Nat} {ca : Nat → ClassId} {B B' : Nat → Nat} {n n' N : Nat} {f : Nat → Int32} (i c : Nat) (hc : c < 8) (hN : 36 + 8 * i + 8 ≤ N) (h : ∀ k, k < N → B' k = B k) (hv : va_at D ww_cl (a, ww_ce ca B n (36 + 8 * i + c) f) H) : va_at D ww_cl (a, ww_ce ca B' n' (36 + 8 * i + c) f) H := by
  rw [ww_ctl i c hc rfl] at hv ⊢
  rcases (show c = 0 ∨ c = 1 ∨ c = 2 ∨ c = 3 ∨ c = 4 ∨ c = 5 ∨ c = 6 ∨ c = 7 by omega) with rfl | rfl | rfl | rfl | rfl | rfl | rfl | rfl
  · have e : ww_fc B' (36 + 8 * i + 0) f = ww_fc B (36 + 8 * i + 0) f := by unfold ww_fc; rw [h _ (by omega), h _ (by omega)]
    show va_at D ww_cl (a, .inr (1, ww_fc B' (36 + 8 * i + 0) f)) H
    rw [e]; exact hv
  · show H[a]? = some (arrV (ca 4) 2 (fun j => va_rf (some (B' (36 + 8 * i + 1 + 1 + 2 * j)))))
    rw [arrV_congr (g := fun j => va_rf (some (B (36 + 8 * i + 1 + 1 + 2 * j)))) (fun j hj => by rw [h _ (by omega)])]
    exact hv
  · have e : ww_fb B' (36 + 8 * i + 2) f = ww_fb B (36 + 8 * i + 2) f := by unfold ww_fb; rw [h _ (by omega)]
    show va_at D ww_cl (a, .inr (0, ww_fb B' (36 + 8 * i + 2) f)) H
    rw [e]; exact hv
  · exact hv
  · have e : ww_fb B' (36 + 8 * i + 4) f = ww_fb B (36 + 8 * i + 4) f := by unfold ww_fb; rw [h _ (by omega)]
    show va_at D ww_cl (a, .inr (0, ww_fb B' (36 + 8 * i + 4) f)) H
    rw [e]; exact hv
  · exact hv
  · have e : ww_fp B' (36 + 8 * i + 6) f = ww_fp B (36 + 8 * i + 6) f := by unfold ww_fp; rw [h _ (by omega)]
    show va_at D ww_cl (a, .inr (3, ww_fp B' (36 + 8 * i + 6) f)) H
    rw [e]; exact hv
  · exact hv
/-- the eight cells of a new controller, at the addresses qs -/
def cl8 (ca : Nat → ClassId) (hw : Int32) (q : Nat → Nat) : va_W := [(q 0, .inr (1, [.int hw, .ref (q 1), .ref (q 6), .int 0, .int 0, .int 0, .int 0, .int 0, .int 0, .int 0])), (q 1, .inl (ca 4, 2, .inr (.inr (.inr (.inr (va_up (va_up (fun _ => none) 0 (some (q 2))) 1 (some (q 4)))))))), (q 2, .inr (0, [.ref (q 3), .int 0, .int 0])), (q 3, .inl (ca 1, 256, .inl (fun _ => 0))), (q 4, .inr (0, [.ref (q 5), .int 0, .int 0])), (q 5, .inl (ca 1, 256, .inl (fun _ => 0))), (q 6, .inr (3, [.ref (q 7), .int 0, .int 0, .int 0, .int 0, .int 0, .int 0, .int 0])), (q 7, .inl (ca 1, 256, .inl (fun _ => 0)))]
theorem cl8_at {D : va_G} {H : Heap} {ca : Nat → ClassId} {hw : Int32} {B' : Nat → Nat} {n n' : Nat} {u : ww_U} (hP : va_P D ww_cl (cl8 ca hw (fun c => B' (36 + 8 * n + c))) H) (c : Nat) (hc : c < 8) : va_at D ww_cl (B' (36 + 8 * n + c), ww_ce ca B' n' (36 + 8 * n + c) (cu_new u n hw (36 + 8 * n + c))) H := by
  have h0 : cu_new u n hw (36 + 8 * n + 0) = fun j => if j = 0 then hw else 0 := by unfold cu_new; rw [if_neg (by omega), if_pos (by omega)]
  have hz : ∀ c, 1 ≤ c → cu_new u n hw (36 + 8 * n + c) = fun _ => 0 := fun c h => by unfold cu_new; rw [if_neg (by omega), if_neg (by omega), if_pos (by omega)]
  rw [ww_ctl n c hc rfl]
  rcases (show c = 0 ∨ c = 1 ∨ c = 2 ∨ c = 3 ∨ c = 4 ∨ c = 5 ∨ c = 6 ∨ c = 7 by omega) with rfl | rfl | rfl | rfl | rfl | rfl | rfl | rfl
  · rw [h0]; exact hP 0 _ rfl
  · have h1 := hP 1 _ rfl
    show H[_]? = some (arrV (ca 4) 2 (fun j => va_rf (some (B' (36 + 8 * n + 1 + 1 + 2 * j)))))
    rw [arrV_congr (g := fun j => va_rf (va_up (va_up (fun _ => none) 0 (some (B' (36 + 8 * n + 2)))) 1 (some (B' (36 + 8 * n + 4))) j)) (fun j hj => by rcases (show j = 0 ∨ j = 1 by omega) with rfl | rfl <;> rfl)]
    exact h1
  · rw [hz 2 (by omega)]; exact hP 2 _ rfl
  · rw [hz 3 (by omega)]; exact hP 3 _ rfl
  · rw [hz 4 (by omega)]; exact hP 4 _ rfl
  · rw [hz 5 (by omega)]; exact hP 5 _ rfl
  · rw [hz 6 (by omega)]; exact hP 6 _ rfl
  · rw [hz 7 (by omega)]; exact hP 7 _ rfl
set_option maxHeartbeats 4000000 in
set_option maxRecDepth 100000 in
theorem ct_X4_controller0 (l : Launch) {D : va_G} {ca : Nat → ClassId} {B : Nat → Nat} {N n : Nat} {X : va_W} {u : ww_U} (hw : Int32) (h : hw < 1 ∨ 127 < hw) (hNn : 36 + 8 * n ≤ N)  : ww_M l yX4_controller wsX4_controller ({ frames := 0, cells := 0, slots := 0, locals := 0 } : Room) D ca B N n X u [.ref (B 29), .int hw] (some (.int (-2))) u := by
  refine ww_met (cc := cX4_controller) (maxL := 2) (ret := (some .int)) (by decide) rfl (Nat.le_of_ble_eq_true rfl) ?_
  intro p e s m args below meth c C hN ls hl
  have hl : lv_has ls 2 [(0, .ref (B 29)), (1, .int hw)] := hl
  have hx := C.1.1
  have hb := C.1.2.1
  have hNB : 36 ≤ N := by omega
  have hNN : 29 ≤ N := by omega
  refine lv_iload_n hx hb dX4_controller_0 rfl (lv_at hl 1 rfl) ?_
  refine lv_iconst (v := 1) hx hb dX4_controller_1 (by decide) ?_
  refine lv_icmp_lt (tgt := 11) hx hb dX4_controller_2 (by decide) (fun c_2 => ?_) (fun c_2 => ?_)
  · refine lv_bipush (v := (-2)) hx hb dX4_controller_11 (by decide) ?_
    exact rr_iret C hN dX4_controller_13 rfl rfl
  · refine lv_iload_n hx hb dX4_controller_5 rfl (lv_at hl 1 rfl) ?_
    refine lv_bipush (v := 127) hx hb dX4_controller_6 (by decide) ?_
    refine lv_icmp_le (tgt := 14) hx hb dX4_controller_8 (by decide) (fun c_8 => absurd c_8 (by rcases h with h | h; exact absurd h c_2; exact Int32.not_le.mpr h)) (fun c_8 => ?_)
    refine lv_bipush (v := (-2)) hx hb dX4_controller_11 (by decide) ?_
    exact rr_iret C hN dX4_controller_13 rfl rfl
set_option maxRecDepth 20000 in
theorem kw_X4_controller_X4 : ww_K wsX4_controller RX4 TX4 8 tyX4 := ⟨by decide +kernel, tyX4_ok, nmX4⟩
set_option maxHeartbeats 4000000 in
set_option maxRecDepth 100000 in
theorem ct_X4_controller1 (l : Launch) {D : va_G} {ca : Nat → ClassId} {B : Nat → Nat} {N n : Nat} {X : va_W} {u : ww_U} (hw : Int32) (h1 : ¬ hw < 1) (h2 : hw ≤ 127) (h8 : ¬ u 29 1 < 8) (hNn : 36 + 8 * n ≤ N)  : ww_M l yX4_controller wsX4_controller ({ frames := 0, cells := 0, slots := 0, locals := 0 } : Room) D ca B N n X u [.ref (B 29), .int hw] (some (.int (-4))) u := by
  refine ww_met (cc := cX4_controller) (maxL := 2) (ret := (some .int)) (by decide) rfl (Nat.le_of_ble_eq_true rfl) ?_
  intro p e s m args below meth c C hN ls hl
  have hl : lv_has ls 2 [(0, .ref (B 29)), (1, .int hw)] := hl
  have hx := C.1.1
  have hb := C.1.2.1
  have hNB : 36 ≤ N := by omega
  have hNN : 29 ≤ N := by omega
  refine lv_iload_n hx hb dX4_controller_0 rfl (lv_at hl 1 rfl) ?_
  refine lv_iconst (v := 1) hx hb dX4_controller_1 (by decide) ?_
  refine lv_icmp_lt (tgt := 11) hx hb dX4_controller_2 (by decide) (fun c_2 => absurd c_2 h1) (fun c_2 => ?_)
  refine lv_iload_n hx hb dX4_controller_5 rfl (lv_at hl 1 rfl) ?_
  refine lv_bipush (v := 127) hx hb dX4_controller_6 (by decide) ?_
  refine lv_icmp_le (tgt := 14) hx hb dX4_controller_8 (by decide) (fun c_8 => ?_) (fun c_8 => absurd c_8 (fun h => h h2))
  refine lv_aload_n hx hb dX4_controller_14 rfl (lv_at hl 0 rfl) ?_
  refine rr_get C hN 29 (Nat.lt_of_lt_of_le (by decide) hNB) rfl rfl kw_X4_controller_X4 1 (by decide) (List.mem_of_getElem? (i := 1) rfl) (v := .int (u 29 1)) rfl dX4_controller_15 ?_
  refine lv_bipush (v := 8) hx hb dX4_controller_18 (by decide) ?_
  refine lv_icmp_lt (tgt := 26) hx hb dX4_controller_20 (by decide) (fun c_20 => absurd c_20 h8) (fun c_20 => ?_)
  refine lv_bipush (v := (-4)) hx hb dX4_controller_23 (by decide) ?_
  exact rr_iret C hN dX4_controller_25 rfl rfl
set_option maxRecDepth 20000 in
theorem kw_X4_controller_X1 : ww_K wsX4_controller RX1 TX1 10 tyX1 := ⟨by decide +kernel, tyX1_ok, nmX1⟩
set_option maxHeartbeats 4000000 in
set_option maxRecDepth 100000 in
theorem wc_X4_controller (l : Launch) {D : va_G} {ca : Nat → ClassId} {B : Nat → Nat} {n : Nat} {X : va_W} {u : ww_U} (hw : Int32) (h1 : ¬ hw < 1) (h2 : hw ≤ 127) (hn8 : n < 8) (hc : u 29 1 = nI n) : ∀ sz : Nat, Met l yX4_controller wsX4_controller ({ frames := 3, cells := 8, slots := 794, locals := 61 } : Room) (va_Pc [.ref (B 29), .int hw] (fun U => U.heap.size = sz ∧ ww_Wd D ca B (36 + 8 * n) n u X (ww_A B (36 + 8 * n) X sz) U ∧ va_AO RX0 U ∧ va_AO RX1 U))
    (fun _ st oc t => (∃ B' : Nat → Nat, (∀ k, k < 36 + 8 * n → B' k = B k) ∧ oc = .returned (some (.int (nI (n + 1)))) ∧ ww_Wd D ca B' (36 + 8 * (n + 1)) (n + 1) (cu_new u n hw) X (ww_A B (36 + 8 * n) X sz) t) ∧ va_F (ww_A B (36 + 8 * n) X sz) st t) 8 794 (ww_A B (36 + 8 * n) X sz) := by
  intro sz
  refine Met.ofW (cc := cX4_controller) (maxL := 2) (ret := some .int) (by decide) rfl ?_
  intro p e s m args below meth c s₁ Bd hml hv
  obtain ⟨rfl, hsz, ⟨hP, hK, hD, hSt⟩, ho0, ho1⟩ := hv
  subst hsz
  have hl := lv_entry ([.ref (B 29), .int hw]) (n := 2) (Nat.le_of_ble_eq_true rfl)
  rw [lg_entry_eq]
  generalize (lg_sl ([.ref (B 29), .int hw]) ++ List.replicate (2 - (lg_sl ([.ref (B 29), .int hw])).length) Slot.unset).toArray = ls at hl ⊢
  have hl : lv_has ls 2 [(0, .ref (B 29)), (1, .int hw)] := hl
  have C : ww_C D ca yX4_controller.cls cX4_controller 2 wsX4_controller (some .int) (ww_A B (36 + 8 * n) X s.heap.size) p s m ([.ref (B 29), .int hw] : List Value).toArray meth c := ⟨⟨Bd.exec, Bd.bytes, hml, findClass_of_methodNamed Bd.named, atoms_spec (ws := wsX4_controller) Bd.pre⟩, Bd.returns, Bd.notSynchronized, hK, fun q h => Or.inr (Or.inr h), hSt⟩
  have hN : ww_N D ca B (36 + 8 * n) n u X (ww_A B (36 + 8 * n) X s.heap.size) s.heap s.heap [] := ⟨hP, hD, va_S.rf⟩
  have hx := C.1.1
  have hb := C.1.2.1
  have hts := C.1.2.2.2.2
  have hown := C.1.2.2.2.1
  have hNB : 36 ≤ 36 + 8 * n := by omega
  refine lv_iload_n hx hb dX4_controller_0 rfl (lv_at hl 1 rfl) ?_
  refine lv_iconst (v := 1) hx hb dX4_controller_1 (by decide) ?_
  refine lv_icmp_lt (tgt := 11) hx hb dX4_controller_2 (by decide) (fun c_2 => absurd c_2 h1) (fun c_2 => ?_)
  refine lv_iload_n hx hb dX4_controller_5 rfl (lv_at hl 1 rfl) ?_
  refine lv_bipush (v := 127) hx hb dX4_controller_6 (by decide) ?_
  refine lv_icmp_le (tgt := 14) hx hb dX4_controller_8 (by decide) (fun c_8 => ?_) (fun c_8 => absurd h2 c_8)
  refine lv_aload_n hx hb dX4_controller_14 rfl (lv_at hl 0 rfl) ?_
  refine rr_get C hN 29 (by omega) rfl rfl kw_X4_controller_X4 1 (by decide) (List.mem_of_getElem? (i := 1) rfl) (v := .int (u 29 1)) rfl dX4_controller_15 ?_
  refine lv_bipush (v := 8) hx hb dX4_controller_18 (by decide) ?_
  refine lv_icmp_lt (tgt := 26) hx hb dX4_controller_20 (by decide) (fun c_20 => ?_) (fun c_20 => absurd (by rw [hc]; exact (show nI n < nI 8 from nI_lt hn8 (by decide))) c_20)
  refine lv_aload_n hx hb dX4_controller_26 rfl (lv_at hl 0 rfl) ?_
  refine rr_get C hN 29 (by omega) rfl rfl kw_X4_controller_X4 0 (by decide) (List.mem_of_getElem? (i := 2) rfl) (v := .ref (B 30)) rfl dX4_controller_27 ?_
  refine lv_aload_n hx hb dX4_controller_30 rfl (lv_at hl 0 rfl) ?_
  refine rr_get C hN 29 (by omega) rfl rfl kw_X4_controller_X4 1 (by decide) (List.mem_of_getElem? (i := 1) rfl) (v := .int (u 29 1)) rfl dX4_controller_31 ?_
  have hL : wl_N D (ww_l ca B (36 + 8 * n) n u X ++ []) (ww_A B (36 + 8 * n) X s.heap.size) s.heap s.heap [] := by rw [List.append_nil]; exact hN
  refine ll_new C hL (ci := 1) (fs := [.int 0, .null, .null, .int 0, .int 0, .int 0, .int 0, .int 0, .int 0, .int 0]) kw_X4_controller_X1 rfl (List.mem_of_getElem? (i := 3) rfl) (List.mem_of_getElem? (i := 4) rfl) (List.mem_of_getElem? (i := 5) rfl) (fun j hj => by rcases (show j = 0 ∨ j = 1 ∨ j = 2 ∨ j = 3 ∨ j = 4 ∨ j = 5 ∨ j = 6 ∨ j = 7 ∨ j = 8 ∨ j = 9 by omega) with rfl | rfl | rfl | rfl | rfl | rfl | rfl | rfl | rfl | rfl <;> rfl) (Nat.le_of_ble_eq_true rfl) (Nat.le_of_ble_eq_true rfl) dX4_controller_34 (fun q H hN1 => ?_)
  have hN1 : wl_N D (ww_l ca B (36 + 8 * n) n u X ++ [(q, .inr (1, [.int 0, .null, .null, .int 0, .int 0, .int 0, .int 0, .int 0, .int 0, .int 0]))]) (ww_A B (36 + 8 * n) X s.heap.size) s.heap H [] := hN1
  refine lv_dup hx hb dX4_controller_37 rfl ?_
  refine lv_iload_n hx hb dX4_controller_38 rfl (lv_at hl 1 rfl) ?_
  refine ll_call (av := [.int hw]) C ho0 ho1 hN1 (wc_X1_init l (ca := ca) (ww_l ca B (36 + 8 * n) n u X) q hw) gX4_controller_X1_init rfl rfl rfl (List.mem_of_getElem? (i := 5) rfl) (List.mem_of_getElem? (i := 6) rfl) (List.mem_of_getElem? (i := 7) rfl) rfl 1 (by decide +kernel) ⟨Nat.le_of_ble_eq_true rfl, Nat.le_of_ble_eq_true rfl⟩ rfl hl.1 rfl (Nat.le_of_ble_eq_true rfl) ⟨Nat.le_of_ble_eq_true rfl, Nat.le_of_ble_eq_true rfl⟩ dX4_controller_39 (fun qs H locs hN2 => ?_)
  refine W.widen (k := 8) (n := 794) (by decide) (by decide) ?_
  have hN2 : wl_N D (ww_l ca B (36 + 8 * n) n u X ++ cl8 ca hw (fun c => (q :: qs).getD c 0)) (ww_A B (36 + 8 * n) X s.heap.size) s.heap H locs := hN2
  have hlen : (ww_l ca B (36 + 8 * n) n u X).length = 36 + 8 * n + X.length := by unfold ww_l; simp
  have hlo : ∀ k, k < 36 + 8 * n → (ww_l ca B (36 + 8 * n) n u X ++ cl8 ca hw (fun c => (q :: qs).getD c 0))[k]? = some (B k, ww_ce ca B n k (u k)) := fun k hk => by
    rw [List.getElem?_append_left (by rw [hlen]; omega)]
    exact ww_at hk
  obtain ⟨hi1, hi2⟩ := ww_ix (i := u 29 1) (j := n) (len := 8) hn8 hc (by decide)
  refine va_astq hx hb hK hN2.1 hN2.2.1 hN2.2.2 30 3 ((ww_l ca B (36 + 8 * n) n u X).length + 0) 1 (hlo 30 (by omega)) rfl (pl_at 0) rfl hi1 dX4_controller_42 (fun H locs hP3 hD3 hS3 => ?_)
  rw [hi2] at hP3 hD3
  have h29 : ((ww_l ca B (36 + 8 * n) n u X ++ cl8 ca hw (fun c => (q :: qs).getD c 0)).set 30 (B 30, .inl (ca 3, 8, .inr (.inr (.inr (.inr (va_up (fun i => if i < n then some (B (36 + 8 * i)) else none) n (some q))))))))[29]? = some (B 29, .inr (4, ww_fu B (u 29))) := by
    rw [List.getElem?_set_ne (by decide)]
    exact hlo 29 (by omega)
  refine lv_aload_n hx hb dX4_controller_43 rfl (lv_at hl 0 rfl) ?_
  refine lv_dup hx hb dX4_controller_44 rfl ?_
  refine va_get (ci := 4) (v := .int (u 29 1)) hx hb hts kw_X4_controller_X4.1 hown hK hP3 29 h29 rfl 1 (by decide) (hts _ (List.mem_of_getElem? (i := 1) rfl)) (fun _ h => h) rfl dX4_controller_45 ?_
  refine lv_iconst (v := 1) hx hb dX4_controller_48 (by decide) ?_
  refine lv_iadd hx hb dX4_controller_49 ?_
  refine lv_topi (fun v ev => ?_)
  have hv1 : v = nI (n + 1) := by rw [ev, hc]; exact nI_1 n
  subst hv1
  refine va_put (ci := 4) (v := .int (nI (n + 1))) (ty := .int) hx hb hts kw_X4_controller_X4.1 tyX4 tyX4_ok nmX4 hown hK hP3 hD3 hS3 29 h29 rfl 1 (by decide) (hts _ (List.mem_of_getElem? (i := 1) rfl)) (fun _ h => h) rfl (by decide +kernel) rfl rfl (Nat.le_of_ble_eq_true rfl) dX4_controller_50 (fun H locs hP4 hD4 hS4 => ?_)
  have h29l : 29 < ((ww_l ca B (36 + 8 * n) n u X ++ cl8 ca hw (fun c => (q :: qs).getD c 0)).set 30 (B 30, .inl (ca 3, 8, .inr (.inr (.inr (.inr (va_up (fun i => if i < n then some (B (36 + 8 * i)) else none) n (some q)))))))).length := (List.getElem?_eq_some_iff.mp h29).1
  refine lv_aload_n hx hb dX4_controller_53 rfl (lv_at hl 0 rfl) ?_
  refine va_get (ci := 4) (v := .int (nI (n + 1))) hx hb hts kw_X4_controller_X4.1 hown hK hP4 29 (List.getElem?_set_self h29l) rfl 1 (by decide) (hts _ (List.mem_of_getElem? (i := 1) rfl)) (fun _ h => h) rfl dX4_controller_54 ?_
  have hlo4 : ∀ k, k < 36 + 8 * n → k ≠ 29 → k ≠ 30 → va_at D ww_cl (B k, ww_ce ca B n k (u k)) H := fun k hk h9 h0 => hP4 k _ (by rw [List.getElem?_set_ne (Ne.symm h9), List.getElem?_set_ne (Ne.symm h0)]; exact hlo k hk)
  have hhi4 : ∀ j x, (ww_l ca B (36 + 8 * n) n u X ++ cl8 ca hw (fun c => (q :: qs).getD c 0))[36 + 8 * n + j]? = some x → va_at D ww_cl x H := fun j x hx => hP4 (36 + 8 * n + j) x (by rw [List.getElem?_set_ne (by omega), List.getElem?_set_ne (by omega)]; exact hx)
  have hBz : ∀ k, k < 36 + 8 * n → bz B (36 + 8 * n) (q :: qs) k = B k := fun k hk => bz_lo hk
  have hPn : va_P D ww_cl (ww_l ca (bz B (36 + 8 * n) (q :: qs)) (36 + 8 * (n + 1)) (n + 1) (cu_new u n hw) X) H := by
    intro k x hk
    by_cases hkN : k < 36 + 8 * (n + 1)
    · rw [ww_at hkN] at hk
      cases hk
      by_cases h8 : 36 + 8 * n ≤ k
      · have hkc : k = 36 + 8 * n + (k - (36 + 8 * n)) := by omega
        rw [hkc]
        refine cl8_at (fun j x hj => ?_) _ (by omega)
        have hq8 : cl8 ca hw (fun c => bz B (36 + 8 * n) (q :: qs) (36 + 8 * n + c)) = cl8 ca hw (fun c => (q :: qs).getD c 0) := by congr 1; funext c; exact bz_hi
        rw [hq8] at hj
        refine hhi4 (X.length + j) x ?_
        rw [show 36 + 8 * n + (X.length + j) = (ww_l ca B (36 + 8 * n) n u X).length + j by rw [hlen]; omega, pl_at]
        exact hj
      · rw [hBz k (by omega)]
        by_cases h9 : k = 29
        · subst h9
          have hw4 := hP4 29 _ (List.getElem?_set_self h29l)
          have eu : cu_new u n hw 29 = upd (u 29) 1 (nI (n + 1)) := by unfold cu_new; rw [if_pos rfl]
          rw [eu]
          show va_at D ww_cl (B 29, .inr (4, ww_fu (bz B (36 + 8 * n) (q :: qs)) (upd (u 29) 1 (nI (n + 1))))) H
          rw [fu_congr (fun k hk => hBz k (by omega))]
          exact hw4
        · have eu : cu_new u n hw k = u k := by unfold cu_new; rw [if_neg h9, if_neg (by omega), if_neg h8]
          rw [eu]
          by_cases h0 : k = 30
          · subst h0
            have hw3 := hP4 30 _ (by rw [List.getElem?_set_ne (by decide)]; exact List.getElem?_set_self (by rw [List.length_append, hlen]; omega))
            have hf : (fun i => if i < n + 1 then some (bz B (36 + 8 * n) (q :: qs) (36 + 8 * i)) else none) = va_up (fun i => if i < n then some (B (36 + 8 * i)) else none) n (some q) := by
              funext i
              unfold va_up
              by_cases hin : i = n
              · subst hin
                rw [if_pos (by omega), if_pos rfl]
                exact congrArg some (bz_hi (c := 0))
              · rw [if_neg hin]
                show (if i < n + 1 then some (bz B (36 + 8 * n) (q :: qs) (36 + 8 * i)) else none) = if i < n then some (B (36 + 8 * i)) else none
                by_cases hlt : i < n
                · rw [if_pos (by omega), if_pos hlt, hBz _ (by omega)]
                · rw [if_neg (by omega), if_neg hlt]
            show va_at D ww_cl (B 30, .inl (ca 3, 8, .inr (.inr (.inr (.inr (fun i => if i < n + 1 then some (bz B (36 + 8 * n) (q :: qs) (36 + 8 * i)) else none)))))) H
            rw [hf]
            exact hw3
          · by_cases h36 : k < 36
            · rw [ce_base (fun k hk => hBz k (by omega)) k h36 h0 (n := n)]
              exact hlo4 k (by omega) h9 h0
            · have hkc : k = 36 + 8 * ((k - 36) / 8) + (k - 36) % 8 := by omega
              have hv := hlo4 k (by omega) h9 h0
              rw [hkc] at hv ⊢
              exact ce_ctl_at ((k - 36) / 8) ((k - 36) % 8) (by omega) (N := 36 + 8 * n) (by omega) (fun k hk => hBz k hk) hv
    · unfold ww_l at hk
      rw [List.getElem?_append_right (by simp; omega)] at hk
      refine hhi4 (k - (36 + 8 * (n + 1))) x ?_
      have hkx : k - (36 + 8 * (n + 1)) < X.length := by
        have := (List.getElem?_eq_some_iff.mp hk).1
        simp at this
        omega
      rw [List.getElem?_append_left (by rw [hlen]; omega)]
      unfold ww_l
      rw [List.getElem?_append_right (by simp)]
      simpa using hk
  have hDn : va_D (ww_A B (36 + 8 * n) X s.heap.size) (ww_l ca (bz B (36 + 8 * n) (q :: qs)) (36 + 8 * (n + 1)) (n + 1) (cu_new u n hw) X) := by
    have e1 : ∀ (ws : va_W) (i : Nat) (a : Nat) (x y : va_E), ws[i]? = some (a, x) → (ws.set i (a, y)).map Prod.fst = ws.map Prod.fst := fun ws i a x y h => by
      apply List.ext_getElem?
      intro j
      rw [List.getElem?_map, List.getElem?_map]
      by_cases hij : j = i
      · subst hij
        rw [List.getElem?_set_self (List.getElem?_eq_some_iff.mp h).1, h]
        rfl
      · rw [List.getElem?_set_ne (Ne.symm hij)]
    have nd := va_D_nd hN2.2.1
    have hA2 := hN2.2.1.2
    have hmap : (ww_l ca (bz B (36 + 8 * n) (q :: qs)) (36 + 8 * (n + 1)) (n + 1) (cu_new u n hw) X).map Prod.fst = (List.range (36 + 8 * n)).map B ++ ((cl8 ca hw (fun c => (q :: qs).getD c 0)).map Prod.fst ++ X.map Prod.fst) := by
      unfold ww_l
      rw [List.map_append, List.map_map, show 36 + 8 * (n + 1) = (36 + 8 * n) + 8 by omega, List.range_add, List.map_append, List.map_map, List.append_assoc]
      congr 1
      · apply List.map_congr_left
        intro k hk
        exact hBz k (List.mem_range.mp hk)
      · congr 1
        have hg : ∀ c, (Prod.fst ∘ fun k => (bz B (36 + 8 * n) (q :: qs) k, ww_ce ca (bz B (36 + 8 * n) (q :: qs)) (n + 1) k (cu_new u n hw k))) (36 + 8 * n + c) = (q :: qs).getD c 0 := fun c => bz_hi
        show [_, _, _, _, _, _, _, _] = _
        simp only [Function.comp]
        rw [show (bz B (36 + 8 * n) (q :: qs) (36 + 8 * n + 0)) = (q :: qs).getD 0 0 from bz_hi]
        simp only [bz_hi]
        rfl
    have hmap0 : (ww_l ca B (36 + 8 * n) n u X ++ cl8 ca hw (fun c => (q :: qs).getD c 0)).map Prod.fst = ((List.range (36 + 8 * n)).map B ++ X.map Prod.fst) ++ (cl8 ca hw (fun c => (q :: qs).getD c 0)).map Prod.fst := by
      unfold ww_l
      rw [List.map_append, List.map_append, List.map_map]
      rfl
    have hpm : ((List.range (36 + 8 * n)).map B ++ X.map Prod.fst ++ (cl8 ca hw (fun c => (q :: qs).getD c 0)).map Prod.fst).Perm ((List.range (36 + 8 * n)).map B ++ ((cl8 ca hw (fun c => (q :: qs).getD c 0)).map Prod.fst ++ X.map Prod.fst)) := by
      rw [List.append_assoc]
      exact List.Perm.append_left _ List.perm_append_comm
    have hAm : ∀ a, a ∈ (ww_l ca B (36 + 8 * n) n u X ++ cl8 ca hw (fun c => (q :: qs).getD c 0)).map Prod.fst → ww_A B (36 + 8 * n) X s.heap.size a := fun a ha => by
      obtain ⟨x, hx, rfl⟩ := List.mem_map.mp ha
      obtain ⟨i, hi⟩ := List.getElem?_of_mem hx
      exact hA2 i x hi
    refine va_D_of ?_ (fun x hx => ?_)
    · rw [hmap]
      exact hpm.nodup_iff.mp (by rw [← hmap0]; exact nd)
    · refine hAm _ ?_
      rw [hmap0]
      refine hpm.symm.subset ?_
      rw [← hmap]
      exact List.mem_map_of_mem hx
  exact W.iret hx hb C.2.1 (fun t ht hW => ⟨⟨bz B (36 + 8 * n) (q :: qs), fun k hk => hBz k hk, rfl, by rw [ht]; exact hPn, va_K.moved hW.alike hK, hDn, by rw [ht]; exact (hSt.kept (fun a h1 h2 => hS4.2.1 a h1 h2)).moved hW.alike⟩, hS4.F ht⟩) hS4.2.2 dX4_controller_57 C.2.2.1
