def cu_cut : Nat → Nat → ww_U → Int32 → ww_U × Int32
  | 0, _, u, c => (u, c)
  | d + 1, k, u, c => cu_cut d (k + 1) (cu_lose (ww_up u (kC k) 5 1) k) (if u (kC k) 5 = 0 then c + 1 else c)
def cu_join : Nat → Nat → Int32 → Int32 → ww_U → Int32 → ww_U × Int32
  | 0, _, _, _, u, c => (u, c)
  | d + 1, k, a, b, u, c => if cu_isOf u k a = 0 then (if cu_isOf u k b = 0 then cu_join d (k + 1) a b u c else cu_join d (k + 1) a b (ww_up u (kP k) 6 a) (c + 1)) else cu_join d (k + 1) a b (ww_up u (kP k) 6 a) (c + 1)
def cu_can : Nat → Nat → Int32 → ww_U → Int32
  | 0, _, _, _ => 1
  | d + 1, k, a, u => if cu_isOf u k a = 0 then cu_can d (k + 1) a u else if u (kP k) 4 = 2 then (if cu_away u k = 0 then cu_can d (k + 1) a u else 0) else 0
def cu_com : Nat → Nat → Int32 → ww_U → ww_U
  | 0, _, _, u => u
  | d + 1, k, a, u => if cu_isOf u k a = 0 then cu_com d (k + 1) a u else cu_com d (k + 1) a (ww_up u (kP k) 7 1)
def cu_asw : Nat → Nat → Int32 → ww_U → Int32
  | 0, _, _, _ => 1
  | d + 1, k, a, u => if cu_isOf u k a = 0 then cu_asw d (k + 1) a u else if u (kP k) 4 = 3 then cu_asw d (k + 1) a u else 0
def cu_mls : Nat → Nat → Int32 → ww_U → ww_U
  | 0, _, _, u => u
  | d + 1, k, a, u => if cu_isOf u k a = 0 then cu_mls d (k + 1) a (ww_up u (kC k) 9 0) else cu_mls d (k + 1) a (ww_up (ww_up u (kC k) 9 (u (kP k) 2)) (kP k) 4 0)
def cu_has : Nat → Nat → ww_U → Int32
  | 0, _, _ => 0
  | d + 1, k, u => if cu_ols u k = 0 then cu_has d (k + 1) u else 1
def cu_may : Nat → Nat → ww_U → Int32
  | 0, _, _ => 1
  | d + 1, k, u => if cu_ols u k = 0 then cu_may d (k + 1) u else if cu_away u k = 0 then (if u (kP k) 4 = 0 then cu_may d (k + 1) u else 0) else 0
def cu_jt : Nat → Nat → ww_U → Int32
  | 0, _, _ => 1
  | d + 1, k, u => if cu_ols u k = 0 then cu_jt d (k + 1) u else if u (kB k (cu_b u k)) 2 = u (kC k) 9 then cu_jt d (k + 1) u else 0
def cu_rb : Nat → Nat → ww_U → ww_U
  | 0, _, u => u
  | d + 1, k, u => if cu_ols u k = 0 then cu_rb d (k + 1) u else cu_rb d (k + 1) (ww_up (cu_other u k) (kC k) 9 0)
def cu_fo : Nat → Nat → Int32 → ww_U → Option Nat
  | 0, _, _, _ => none
  | d + 1, k, x, u => if u (kP k) 4 = 0 then cu_fo d (k + 1) x u else if u (kP k) 2 = x then some k else cu_fo d (k + 1) x u
set_option maxRecDepth 20000 in
theorem kw_X4_hasLastSet_X4 : ww_K wsX4_hasLastSet RX4 TX4 8 tyX4 := ⟨by decide +kernel, tyX4_ok, nmX4⟩
set_option maxHeartbeats 4000000 in
set_option maxRecDepth 100000 in
theorem lp_X4_hasLastSet {p : Program} {l : Launch} {e : Env} {s : State} {m : MethodId} {args : Array Value} {below : List Frame} {meth : Method} {c : Code} {D : va_G} {ca : Nat → ClassId} {B : Nat → Nat} {N n : Nat} {X : va_W} (C : ww_C D ca yX4_hasLastSet.cls cX4_hasLastSet 2 wsX4_hasLastSet (some .boolean) (ww_A B N X s.heap.size) p s m args meth c) (hNn : 36 + 8 * n ≤ N)  (hn8 : n ≤ 8)  {r : Option Value} {u' : ww_U} : ∀ (d k : Nat) (x : Int32) (u : ww_U), k + d = n → (u 29 1 = nI n) → (x = nI k) → r = some (.int (cu_has d k u)) → u' = u → ∀ (H : Heap) (locs : List Loc) (ls : Array Slot), ww_N D ca B N n u X (ww_A B N X s.heap.size) s.heap H locs → lv_has ls 2 [(0, .ref (B 29)), (1, .int x)] → W p l e (headSpec wsX4_hasLastSet ({ frames := 1, cells := 0, slots := 0, locals := 20 } : Room)).room s m args below meth c H locs 0 0 (MQ below (ww_Q D ca B N n X s.heap.size r u') args s 0 0 (ww_A B N X s.heap.size)) (F0 m 2 ls []) := by
  have hx := C.1.1
  have hb := C.1.2.1
  have hNB : 36 ≤ N := by omega
  have hNN : 29 ≤ N := by omega
  intro d
  induction d with
  | zero =>
    intro k x u hkd hc hxk hr hu H locs ls hN hl
    refine lv_iload_n hx hb dX4_hasLastSet_2 rfl (lv_at hl 1 rfl) ?_
    refine lv_aload_n hx hb dX4_hasLastSet_3 rfl (lv_at hl 0 rfl) ?_
    refine rr_get C hN 29 (Nat.lt_of_lt_of_le (by decide) hNB) rfl rfl kw_X4_hasLastSet_X4 1 (by decide) (List.mem_of_getElem? (i := 1) rfl) (v := .int (u 29 1)) rfl dX4_hasLastSet_4 ?_
    refine lv_icmp_ge (tgt := 30) hx hb dX4_hasLastSet_7 (by decide) (fun c_7 => ?_) (fun c_7 => absurd c_7 (fun h => h (by rw [hc, hxk, show k = n by omega]; exact nI_le (Nat.le_refl _) (by omega))))
    refine lv_iconst (v := 0) hx hb dX4_hasLastSet_30 (by decide) ?_
    exact rr_zret C hN dX4_hasLastSet_31 (by first | rfl | decide) (hr.trans rfl) hu
  | succ d ih =>
    intro k x u hkd hc hxk hr hu H locs ls hN hl
    have hkn : k < n := by omega
    refine lv_iload_n hx hb dX4_hasLastSet_2 rfl (lv_at hl 1 rfl) ?_
    refine lv_aload_n hx hb dX4_hasLastSet_3 rfl (lv_at hl 0 rfl) ?_
    refine rr_get C hN 29 (Nat.lt_of_lt_of_le (by decide) hNB) rfl rfl kw_X4_hasLastSet_X4 1 (by decide) (List.mem_of_getElem? (i := 1) rfl) (v := .int (u 29 1)) rfl dX4_hasLastSet_4 ?_
    refine lv_icmp_ge (tgt := 30) hx hb dX4_hasLastSet_7 (by decide) (fun c_7 => absurd c_7 (by rw [hc, hxk]; exact nI_ge (by omega) (by omega))) (fun c_7 => ?_)
    refine lv_aload_n hx hb dX4_hasLastSet_10 rfl (lv_at hl 0 rfl) ?_
    refine rr_get C hN 29 (Nat.lt_of_lt_of_le (by decide) hNB) rfl rfl kw_X4_hasLastSet_X4 0 (by decide) (List.mem_of_getElem? (i := 2) rfl) (v := .ref (B 30)) rfl dX4_hasLastSet_11 ?_
    refine lv_iload_n hx hb dX4_hasLastSet_14 rfl (lv_at hl 1 rfl) ?_
    refine rr_ald C hN 30 (Nat.lt_of_lt_of_le (by decide) hNB) 3 rfl rfl (by decide) k (by omega) hxk (v := .ref (B (kC k))) (by simp only [if_pos hkn]; rfl) dX4_hasLastSet_15 ?_
    refine rr_callV (As := []) C hN (kC k) (kC_lt hNn hkn) hC_ce rfl rfl (ct_X1_isOfLastSet l hkn hNn) gX4_hasLastSet_X1_isOfLastSet rfl rfl rfl 0 (by decide +kernel) ⟨Nat.le_of_ble_eq_true rfl, Nat.le_of_ble_eq_true rfl⟩ rfl hl.1 rfl (Nat.le_of_ble_eq_true rfl) ⟨Nat.zero_le _, Nat.zero_le _⟩ dX4_hasLastSet_16 (fun H locs hN => ?_)
    refine lv_topi (fun vs1 evs1 => ?_)
    refine lv_if_eq (tgt := 24) hx hb dX4_hasLastSet_19 (by decide) (fun c_19 => ?_) (fun c_19 => ?_)
    · obtain ⟨vs2, evs2⟩ : ∃ y9 : Int32, y9 = x + 1 := ⟨_, rfl⟩
      refine lv_iinc (v := vs2) (lv' := [(1, .int vs2), (0, .ref (B 29))]) hx hb dX4_hasLastSet_24 hl (k := 1) rfl (by rw [evs2]; rfl) (by decide) rfl (fun ls hl => ?_)
      refine lv_goto (tgt := 2) hx hb dX4_hasLastSet_27 (by decide) ?_
      exact ih (k + 1) vs2 u (by omega) hc (by rw [evs2, hxk]; exact nI_1 k) (hr.trans (by subst_vars; first | rfl | (simp only [cu_has]; done) | (simp only [cu_has]; (repeat' split) <;> first | rfl | contradiction | simp_all))) (hu.trans (by subst_vars; first | rfl | (simp only [cu_has]; done) | (simp only [cu_has]; (repeat' split) <;> first | rfl | contradiction | simp_all))) H locs ls hN (lv_sub hl [1, 0] rfl)
    · refine lv_iconst (v := 1) hx hb dX4_hasLastSet_22 (by decide) ?_
      exact rr_zret C hN dX4_hasLastSet_23 (by first | rfl | decide) (hr.trans (by subst_vars; first | rfl | (simp only [cu_has]; done) | (simp only [cu_has]; (repeat' split) <;> first | rfl | contradiction | simp_all))) hu
set_option maxHeartbeats 4000000 in
set_option maxRecDepth 100000 in
theorem ct_X4_hasLastSet (l : Launch) {D : va_G} {ca : Nat → ClassId} {B : Nat → Nat} {N n : Nat} {X : va_W} {u : ww_U}  (hNn : 36 + 8 * n ≤ N) (hn8 : n ≤ 8) (hc : u 29 1 = nI n) : ww_M l yX4_hasLastSet wsX4_hasLastSet ({ frames := 1, cells := 0, slots := 0, locals := 20 } : Room) D ca B N n X u [.ref (B 29)] (some (.int (cu_has n 0 u))) u := by
  refine ww_met (cc := cX4_hasLastSet) (maxL := 2) (ret := (some .boolean)) (by decide) rfl (Nat.le_of_ble_eq_true rfl) ?_
  intro p e s m args below meth c C hN ls hl
  have hl : lv_has ls 2 [(0, .ref (B 29))] := hl
  have hx := C.1.1
  have hb := C.1.2.1
  have hNB : 36 ≤ N := by omega
  have hNN : 29 ≤ N := by omega
  refine lv_iconst (v := 0) hx hb dX4_hasLastSet_0 (by decide) ?_
  refine lv_istore_n (lv' := [(1, .int 0), (0, .ref (B 29))]) hx hb dX4_hasLastSet_1 rfl hl (by decide) rfl (fun ls hl => ?_)
  exact lp_X4_hasLastSet C hNn  hn8 n 0 0 u (by omega) hc rfl rfl rfl _ _ _ hN (lv_sub hl [1, 0] rfl)
set_option maxRecDepth 20000 in
theorem kw_X4_lastSetMayGoBack_X4 : ww_K wsX4_lastSetMayGoBack RX4 TX4 8 tyX4 := ⟨by decide +kernel, tyX4_ok, nmX4⟩
set_option maxRecDepth 20000 in
theorem kw_X4_lastSetMayGoBack_X1 : ww_K wsX4_lastSetMayGoBack RX1 TX1 10 tyX1 := ⟨by decide +kernel, tyX1_ok, nmX1⟩
set_option maxRecDepth 20000 in
theorem kw_X4_lastSetMayGoBack_X3 : ww_K wsX4_lastSetMayGoBack RX3 TX3 8 tyX3 := ⟨by decide +kernel, tyX3_ok, nmX3⟩
set_option maxHeartbeats 4000000 in
set_option maxRecDepth 100000 in
theorem lp_X4_lastSetMayGoBack {p : Program} {l : Launch} {e : Env} {s : State} {m : MethodId} {args : Array Value} {below : List Frame} {meth : Method} {c : Code} {D : va_G} {ca : Nat → ClassId} {B : Nat → Nat} {N n : Nat} {X : va_W} (C : ww_C D ca yX4_lastSetMayGoBack.cls cX4_lastSetMayGoBack 3 wsX4_lastSetMayGoBack (some .boolean) (ww_A B N X s.heap.size) p s m args meth c) (hNn : 36 + 8 * n ≤ N)  (hn8 : n ≤ 8)  {r : Option Value} {u' : ww_U} : ∀ (d k : Nat) (x : Int32) (u : ww_U), k + d = n → (u 29 1 = nI n) → (x = nI k) → r = some (.int (cu_may d k u)) → u' = u → ∀ (H : Heap) (locs : List Loc) (ls : Array Slot), ww_N D ca B N n u X (ww_A B N X s.heap.size) s.heap H locs → lv_has ls 3 [(0, .ref (B 29)), (1, .int x)] → W p l e (headSpec wsX4_lastSetMayGoBack ({ frames := 1, cells := 0, slots := 0, locals := 20 } : Room)).room s m args below meth c H locs 0 0 (MQ below (ww_Q D ca B N n X s.heap.size r u') args s 0 0 (ww_A B N X s.heap.size)) (F0 m 2 ls []) := by
  have hx := C.1.1
  have hb := C.1.2.1
  have hNB : 36 ≤ N := by omega
  have hNN : 29 ≤ N := by omega
  intro d
  induction d with
  | zero =>
    intro k x u hkd hc hxk hr hu H locs ls hN hl
    refine lv_iload_n hx hb dX4_lastSetMayGoBack_2 rfl (lv_at hl 1 rfl) ?_
    refine lv_aload_n hx hb dX4_lastSetMayGoBack_3 rfl (lv_at hl 0 rfl) ?_
    refine rr_get C hN 29 (Nat.lt_of_lt_of_le (by decide) hNB) rfl rfl kw_X4_lastSetMayGoBack_X4 1 (by decide) (List.mem_of_getElem? (i := 1) rfl) (v := .int (u 29 1)) rfl dX4_lastSetMayGoBack_4 ?_
    refine lv_icmp_ge (tgt := 49) hx hb dX4_lastSetMayGoBack_7 (by decide) (fun c_7 => ?_) (fun c_7 => absurd c_7 (fun h => h (by rw [hc, hxk, show k = n by omega]; exact nI_le (Nat.le_refl _) (by omega))))
    refine lv_iconst (v := 1) hx hb dX4_lastSetMayGoBack_49 (by decide) ?_
    exact rr_zret C hN dX4_lastSetMayGoBack_50 (by first | rfl | decide) (hr.trans rfl) hu
  | succ d ih =>
    intro k x u hkd hc hxk hr hu H locs ls hN hl
    have hkn : k < n := by omega
    refine lv_iload_n hx hb dX4_lastSetMayGoBack_2 rfl (lv_at hl 1 rfl) ?_
    refine lv_aload_n hx hb dX4_lastSetMayGoBack_3 rfl (lv_at hl 0 rfl) ?_
    refine rr_get C hN 29 (Nat.lt_of_lt_of_le (by decide) hNB) rfl rfl kw_X4_lastSetMayGoBack_X4 1 (by decide) (List.mem_of_getElem? (i := 1) rfl) (v := .int (u 29 1)) rfl dX4_lastSetMayGoBack_4 ?_
    refine lv_icmp_ge (tgt := 49) hx hb dX4_lastSetMayGoBack_7 (by decide) (fun c_7 => absurd c_7 (by rw [hc, hxk]; exact nI_ge (by omega) (by omega))) (fun c_7 => ?_)
    refine lv_aload_n hx hb dX4_lastSetMayGoBack_10 rfl (lv_at hl 0 rfl) ?_
    refine rr_get C hN 29 (Nat.lt_of_lt_of_le (by decide) hNB) rfl rfl kw_X4_lastSetMayGoBack_X4 0 (by decide) (List.mem_of_getElem? (i := 2) rfl) (v := .ref (B 30)) rfl dX4_lastSetMayGoBack_11 ?_
    refine lv_iload_n hx hb dX4_lastSetMayGoBack_14 rfl (lv_at hl 1 rfl) ?_
    refine rr_ald C hN 30 (Nat.lt_of_lt_of_le (by decide) hNB) 3 rfl rfl (by decide) k (by omega) hxk (v := .ref (B (kC k))) (by simp only [if_pos hkn]; rfl) dX4_lastSetMayGoBack_15 ?_
    refine lv_astore_n (lv' := [(2, .ref (B (kC k))), (0, .ref (B 29)), (1, .int x)]) hx hb dX4_lastSetMayGoBack_16 rfl hl (by decide) rfl (fun ls hl => ?_)
    refine lv_aload_n hx hb dX4_lastSetMayGoBack_17 rfl (lv_at hl 0 rfl) ?_
    refine rr_callV (As := []) C hN (kC k) (kC_lt hNn hkn) hC_ce rfl rfl (ct_X1_isOfLastSet l hkn hNn) gX4_lastSetMayGoBack_X1_isOfLastSet rfl rfl rfl 0 (by decide +kernel) ⟨Nat.le_of_ble_eq_true rfl, Nat.le_of_ble_eq_true rfl⟩ rfl hl.1 rfl (Nat.le_of_ble_eq_true rfl) ⟨Nat.zero_le _, Nat.zero_le _⟩ dX4_lastSetMayGoBack_18 (fun H locs hN => ?_)
    refine lv_topi (fun vs1 evs1 => ?_)
    refine lv_if_eq (tgt := 43) hx hb dX4_lastSetMayGoBack_21 (by decide) (fun c_21 => ?_) (fun c_21 => ?_)
    · obtain ⟨vs2, evs2⟩ : ∃ y9 : Int32, y9 = x + 1 := ⟨_, rfl⟩
      refine lv_iinc (v := vs2) (lv' := [(1, .int vs2), (2, .ref (B (kC k))), (0, .ref (B 29))]) hx hb dX4_lastSetMayGoBack_43 hl (k := 2) rfl (by rw [evs2]; rfl) (by decide) rfl (fun ls hl => ?_)
      refine lv_goto (tgt := 2) hx hb dX4_lastSetMayGoBack_46 (by decide) ?_
      exact ih (k + 1) vs2 u (by omega) hc (by rw [evs2, hxk]; exact nI_1 k) (hr.trans (by subst_vars; first | rfl | (simp only [cu_may]; done) | (simp only [cu_may]; (repeat' split) <;> first | rfl | contradiction | simp_all))) (hu.trans (by subst_vars; first | rfl | (simp only [cu_may]; done) | (simp only [cu_may]; (repeat' split) <;> first | rfl | contradiction | simp_all))) H locs ls hN (lv_sub hl [2, 0] rfl)
    · refine lv_aload_n hx hb dX4_lastSetMayGoBack_24 rfl (lv_at hl 0 rfl) ?_
      refine rr_callV (As := []) C hN (kC k) (kC_lt hNn hkn) hC_ce rfl rfl (ct_X1_isAway l hkn hNn) gX4_lastSetMayGoBack_X1_isAway rfl rfl rfl 0 (by decide +kernel) ⟨Nat.le_of_ble_eq_true rfl, Nat.le_of_ble_eq_true rfl⟩ rfl hl.1 rfl (Nat.le_of_ble_eq_true rfl) ⟨Nat.zero_le _, Nat.zero_le _⟩ dX4_lastSetMayGoBack_25 (fun H locs hN => ?_)
      refine lv_topi (fun vs3 evs3 => ?_)
      refine lv_if_ne (tgt := 41) hx hb dX4_lastSetMayGoBack_28 (by decide) (fun c_28 => ?_) (fun c_28 => ?_)
      · refine lv_iconst (v := 0) hx hb dX4_lastSetMayGoBack_41 (by decide) ?_
        exact rr_zret C hN dX4_lastSetMayGoBack_42 (by first | rfl | decide) (hr.trans (by subst_vars; first | rfl | (simp only [cu_may]; done) | (simp only [cu_may]; (repeat' split) <;> first | rfl | contradiction | simp_all))) hu
      · refine lv_aload_n hx hb dX4_lastSetMayGoBack_31 rfl (lv_at hl 0 rfl) ?_
        refine rr_get C hN (kC k) (kC_lt hNn hkn) hC_ce rfl kw_X4_lastSetMayGoBack_X1 2 (by decide) (List.mem_of_getElem? (i := 3) rfl) (v := .ref (B (kP k))) rfl dX4_lastSetMayGoBack_32 ?_
        refine rr_get C hN (kP k) (kP_lt hNn hkn) hP_ce rfl kw_X4_lastSetMayGoBack_X3 4 (by decide) (List.mem_of_getElem? (i := 4) rfl) (v := .int (u (kP k) 4)) rfl dX4_lastSetMayGoBack_35 ?_
        refine lv_if_eq (tgt := 43) hx hb dX4_lastSetMayGoBack_38 (by decide) (fun c_38 => ?_) (fun c_38 => ?_)
        · obtain ⟨vs4, evs4⟩ : ∃ y9 : Int32, y9 = x + 1 := ⟨_, rfl⟩
          refine lv_iinc (v := vs4) (lv' := [(1, .int vs4), (2, .ref (B (kC k))), (0, .ref (B 29))]) hx hb dX4_lastSetMayGoBack_43 hl (k := 2) rfl (by rw [evs4]; rfl) (by decide) rfl (fun ls hl => ?_)
          refine lv_goto (tgt := 2) hx hb dX4_lastSetMayGoBack_46 (by decide) ?_
          exact ih (k + 1) vs4 u (by omega) hc (by rw [evs4, hxk]; exact nI_1 k) (hr.trans (by subst_vars; first | rfl | (simp only [cu_may]; done) | (simp only [cu_may]; (repeat' split) <;> first | rfl | contradiction | simp_all))) (hu.trans (by subst_vars; first | rfl | (simp only [cu_may]; done) | (simp only [cu_may]; (repeat' split) <;> first | rfl | contradiction | simp_all))) H locs ls hN (lv_sub hl [2, 0] rfl)
        · refine lv_iconst (v := 0) hx hb dX4_lastSetMayGoBack_41 (by decide) ?_
          exact rr_zret C hN dX4_lastSetMayGoBack_42 (by first | rfl | decide) (hr.trans (by subst_vars; first | rfl | (simp only [cu_may]; done) | (simp only [cu_may]; (repeat' split) <;> first | rfl | contradiction | simp_all))) hu
set_option maxHeartbeats 4000000 in
set_option maxRecDepth 100000 in
theorem ct_X4_lastSetMayGoBack (l : Launch) {D : va_G} {ca : Nat → ClassId} {B : Nat → Nat} {N n : Nat} {X : va_W} {u : ww_U}  (hNn : 36 + 8 * n ≤ N) (hn8 : n ≤ 8) (hc : u 29 1 = nI n) : ww_M l yX4_lastSetMayGoBack wsX4_lastSetMayGoBack ({ frames := 1, cells := 0, slots := 0, locals := 20 } : Room) D ca B N n X u [.ref (B 29)] (some (.int (cu_may n 0 u))) u := by
  refine ww_met (cc := cX4_lastSetMayGoBack) (maxL := 3) (ret := (some .boolean)) (by decide) rfl (Nat.le_of_ble_eq_true rfl) ?_
  intro p e s m args below meth c C hN ls hl
  have hl : lv_has ls 3 [(0, .ref (B 29))] := hl
  have hx := C.1.1
  have hb := C.1.2.1
  have hNB : 36 ≤ N := by omega
  have hNN : 29 ≤ N := by omega
  refine lv_iconst (v := 0) hx hb dX4_lastSetMayGoBack_0 (by decide) ?_
  refine lv_istore_n (lv' := [(1, .int 0), (0, .ref (B 29))]) hx hb dX4_lastSetMayGoBack_1 rfl hl (by decide) rfl (fun ls hl => ?_)
  exact lp_X4_lastSetMayGoBack C hNn  hn8 n 0 0 u (by omega) hc rfl rfl rfl _ _ _ hN (lv_sub hl [1, 0] rfl)
set_option maxRecDepth 20000 in
theorem kw_X4_allCanCommit_X4 : ww_K wsX4_allCanCommit RX4 TX4 8 tyX4 := ⟨by decide +kernel, tyX4_ok, nmX4⟩
set_option maxRecDepth 20000 in
theorem kw_X4_allCanCommit_X1 : ww_K wsX4_allCanCommit RX1 TX1 10 tyX1 := ⟨by decide +kernel, tyX1_ok, nmX1⟩
set_option maxRecDepth 20000 in
theorem kw_X4_allCanCommit_X3 : ww_K wsX4_allCanCommit RX3 TX3 8 tyX3 := ⟨by decide +kernel, tyX3_ok, nmX3⟩
set_option maxHeartbeats 4000000 in
set_option maxRecDepth 100000 in
theorem lp_X4_allCanCommit {p : Program} {l : Launch} {e : Env} {s : State} {m : MethodId} {args : Array Value} {below : List Frame} {meth : Method} {c : Code} {D : va_G} {ca : Nat → ClassId} {B : Nat → Nat} {N n : Nat} {X : va_W} (C : ww_C D ca yX4_allCanCommit.cls cX4_allCanCommit 4 wsX4_allCanCommit (some .boolean) (ww_A B N X s.heap.size) p s m args meth c) (hNn : 36 + 8 * n ≤ N) (a : Int32) (hn8 : n ≤ 8)  {r : Option Value} {u' : ww_U} : ∀ (d k : Nat) (x : Int32) (u : ww_U), k + d = n → (u 29 1 = nI n) → (x = nI k) → r = some (.int (cu_can d k a u)) → u' = u → ∀ (H : Heap) (locs : List Loc) (ls : Array Slot), ww_N D ca B N n u X (ww_A B N X s.heap.size) s.heap H locs → lv_has ls 4 [(0, .ref (B 29)), (1, .int a), (2, .int x)] → W p l e (headSpec wsX4_allCanCommit ({ frames := 1, cells := 0, slots := 0, locals := 21 } : Room)).room s m args below meth c H locs 0 0 (MQ below (ww_Q D ca B N n X s.heap.size r u') args s 0 0 (ww_A B N X s.heap.size)) (F0 m 2 ls []) := by
  have hx := C.1.1
  have hb := C.1.2.1
  have hNB : 36 ≤ N := by omega
  have hNN : 29 ≤ N := by omega
  intro d
  induction d with
  | zero =>
    intro k x u hkd hc hxk hr hu H locs ls hN hl
    refine lv_iload_n hx hb dX4_allCanCommit_2 rfl (lv_at hl 2 rfl) ?_
    refine lv_aload_n hx hb dX4_allCanCommit_3 rfl (lv_at hl 0 rfl) ?_
    refine rr_get C hN 29 (Nat.lt_of_lt_of_le (by decide) hNB) rfl rfl kw_X4_allCanCommit_X4 1 (by decide) (List.mem_of_getElem? (i := 1) rfl) (v := .int (u 29 1)) rfl dX4_allCanCommit_4 ?_
    refine lv_icmp_ge (tgt := 54) hx hb dX4_allCanCommit_7 (by decide) (fun c_7 => ?_) (fun c_7 => absurd c_7 (fun h => h (by rw [hc, hxk, show k = n by omega]; exact nI_le (Nat.le_refl _) (by omega))))
    refine lv_iconst (v := 1) hx hb dX4_allCanCommit_54 (by decide) ?_
    exact rr_zret C hN dX4_allCanCommit_55 (by first | rfl | decide) (hr.trans rfl) hu
  | succ d ih =>
    intro k x u hkd hc hxk hr hu H locs ls hN hl
    have hkn : k < n := by omega
    refine lv_iload_n hx hb dX4_allCanCommit_2 rfl (lv_at hl 2 rfl) ?_
    refine lv_aload_n hx hb dX4_allCanCommit_3 rfl (lv_at hl 0 rfl) ?_
    refine rr_get C hN 29 (Nat.lt_of_lt_of_le (by decide) hNB) rfl rfl kw_X4_allCanCommit_X4 1 (by decide) (List.mem_of_getElem? (i := 1) rfl) (v := .int (u 29 1)) rfl dX4_allCanCommit_4 ?_
    refine lv_icmp_ge (tgt := 54) hx hb dX4_allCanCommit_7 (by decide) (fun c_7 => absurd c_7 (by rw [hc, hxk]; exact nI_ge (by omega) (by omega))) (fun c_7 => ?_)
    refine lv_aload_n hx hb dX4_allCanCommit_10 rfl (lv_at hl 0 rfl) ?_
    refine rr_get C hN 29 (Nat.lt_of_lt_of_le (by decide) hNB) rfl rfl kw_X4_allCanCommit_X4 0 (by decide) (List.mem_of_getElem? (i := 2) rfl) (v := .ref (B 30)) rfl dX4_allCanCommit_11 ?_
    refine lv_iload_n hx hb dX4_allCanCommit_14 rfl (lv_at hl 2 rfl) ?_
    refine rr_ald C hN 30 (Nat.lt_of_lt_of_le (by decide) hNB) 3 rfl rfl (by decide) k (by omega) hxk (v := .ref (B (kC k))) (by simp only [if_pos hkn]; rfl) dX4_allCanCommit_15 ?_
    refine lv_astore_n (lv' := [(3, .ref (B (kC k))), (0, .ref (B 29)), (1, .int a), (2, .int x)]) hx hb dX4_allCanCommit_16 rfl hl (by decide) rfl (fun ls hl => ?_)
    refine lv_aload_n hx hb dX4_allCanCommit_17 rfl (lv_at hl 0 rfl) ?_
    refine rr_get C hN (kC k) (kC_lt hNn hkn) hC_ce rfl kw_X4_allCanCommit_X1 2 (by decide) (List.mem_of_getElem? (i := 3) rfl) (v := .ref (B (kP k))) rfl dX4_allCanCommit_18 ?_
    refine lv_iload_n hx hb dX4_allCanCommit_21 rfl (lv_at hl 2 rfl) ?_
    refine rr_callV (As := [.int a]) C hN (kP k) (kP_lt hNn hkn) hP_ce rfl rfl (ct_X3_isOf l hkn a hNn) gX4_allCanCommit_X3_isOf rfl rfl rfl 1 (by decide +kernel) ⟨Nat.le_of_ble_eq_true rfl, Nat.le_of_ble_eq_true rfl⟩ rfl hl.1 rfl (Nat.le_of_ble_eq_true rfl) ⟨Nat.zero_le _, Nat.zero_le _⟩ dX4_allCanCommit_22 (fun H locs hN => ?_)
    refine lv_topi (fun vs1 evs1 => ?_)
    refine lv_if_eq (tgt := 48) hx hb dX4_allCanCommit_25 (by decide) (fun c_25 => ?_) (fun c_25 => ?_)
    · obtain ⟨vs2, evs2⟩ : ∃ y9 : Int32, y9 = x + 1 := ⟨_, rfl⟩
      refine lv_iinc (v := vs2) (lv' := [(2, .int vs2), (3, .ref (B (kC k))), (0, .ref (B 29)), (1, .int a)]) hx hb dX4_allCanCommit_48 hl (k := 3) rfl (by rw [evs2]; rfl) (by decide) rfl (fun ls hl => ?_)
      refine lv_goto (tgt := 2) hx hb dX4_allCanCommit_51 (by decide) ?_
      exact ih (k + 1) vs2 u (by omega) hc (by rw [evs2, hxk]; exact nI_1 k) (hr.trans (by subst_vars; first | rfl | (simp only [cu_can]; done) | (simp only [cu_can]; (repeat' split) <;> first | rfl | contradiction | simp_all))) (hu.trans (by subst_vars; first | rfl | (simp only [cu_can]; done) | (simp only [cu_can]; (repeat' split) <;> first | rfl | contradiction | simp_all))) H locs ls hN (lv_sub hl [2, 3, 0] rfl)
    · refine lv_aload_n hx hb dX4_allCanCommit_28 rfl (lv_at hl 0 rfl) ?_
      refine rr_get C hN (kC k) (kC_lt hNn hkn) hC_ce rfl kw_X4_allCanCommit_X1 2 (by decide) (List.mem_of_getElem? (i := 3) rfl) (v := .ref (B (kP k))) rfl dX4_allCanCommit_29 ?_
      refine rr_get C hN (kP k) (kP_lt hNn hkn) hP_ce rfl kw_X4_allCanCommit_X3 4 (by decide) (List.mem_of_getElem? (i := 4) rfl) (v := .int (u (kP k) 4)) rfl dX4_allCanCommit_32 ?_
      refine lv_iconst (v := 2) hx hb dX4_allCanCommit_35 (by decide) ?_
      refine lv_icmp_ne (tgt := 46) hx hb dX4_allCanCommit_36 (by decide) (fun c_36 => ?_) (fun c_36 => ?_)
      · refine lv_iconst (v := 0) hx hb dX4_allCanCommit_46 (by decide) ?_
        exact rr_zret C hN dX4_allCanCommit_47 (by first | rfl | decide) (hr.trans (by subst_vars; first | rfl | (simp only [cu_can]; done) | (simp only [cu_can]; (repeat' split) <;> first | rfl | contradiction | simp_all))) hu
      · refine lv_aload_n hx hb dX4_allCanCommit_39 rfl (lv_at hl 0 rfl) ?_
        refine rr_callV (As := []) C hN (kC k) (kC_lt hNn hkn) hC_ce rfl rfl (ct_X1_isAway l hkn hNn) gX4_allCanCommit_X1_isAway rfl rfl rfl 0 (by decide +kernel) ⟨Nat.le_of_ble_eq_true rfl, Nat.le_of_ble_eq_true rfl⟩ rfl hl.1 rfl (Nat.le_of_ble_eq_true rfl) ⟨Nat.zero_le _, Nat.zero_le _⟩ dX4_allCanCommit_40 (fun H locs hN => ?_)
        refine lv_topi (fun vs3 evs3 => ?_)
        refine lv_if_eq (tgt := 48) hx hb dX4_allCanCommit_43 (by decide) (fun c_43 => ?_) (fun c_43 => ?_)
        · obtain ⟨vs4, evs4⟩ : ∃ y9 : Int32, y9 = x + 1 := ⟨_, rfl⟩
          refine lv_iinc (v := vs4) (lv' := [(2, .int vs4), (3, .ref (B (kC k))), (0, .ref (B 29)), (1, .int a)]) hx hb dX4_allCanCommit_48 hl (k := 3) rfl (by rw [evs4]; rfl) (by decide) rfl (fun ls hl => ?_)
          refine lv_goto (tgt := 2) hx hb dX4_allCanCommit_51 (by decide) ?_
          exact ih (k + 1) vs4 u (by omega) hc (by rw [evs4, hxk]; exact nI_1 k) (hr.trans (by subst_vars; first | rfl | (simp only [cu_can]; done) | (simp only [cu_can]; (repeat' split) <;> first | rfl | contradiction | simp_all))) (hu.trans (by subst_vars; first | rfl | (simp only [cu_can]; done) | (simp only [cu_can]; (repeat' split) <;> first | rfl | contradiction | simp_all))) H locs ls hN (lv_sub hl [2, 3, 0] rfl)
        · refine lv_iconst (v := 0) hx hb dX4_allCanCommit_46 (by decide) ?_
          exact rr_zret C hN dX4_allCanCommit_47 (by first | rfl | decide) (hr.trans (by subst_vars; first | rfl | (simp only [cu_can]; done) | (simp only [cu_can]; (repeat' split) <;> first | rfl | contradiction | simp_all))) hu
set_option maxHeartbeats 4000000 in
set_option maxRecDepth 100000 in
theorem ct_X4_allCanCommit (l : Launch) {D : va_G} {ca : Nat → ClassId} {B : Nat → Nat} {N n : Nat} {X : va_W} {u : ww_U} (a : Int32) (hNn : 36 + 8 * n ≤ N) (hn8 : n ≤ 8) (hc : u 29 1 = nI n) : ww_M l yX4_allCanCommit wsX4_allCanCommit ({ frames := 1, cells := 0, slots := 0, locals := 21 } : Room) D ca B N n X u [.ref (B 29), .int a] (some (.int (cu_can n 0 a u))) u := by
  refine ww_met (cc := cX4_allCanCommit) (maxL := 4) (ret := (some .boolean)) (by decide) rfl (Nat.le_of_ble_eq_true rfl) ?_
  intro p e s m args below meth c C hN ls hl
  have hl : lv_has ls 4 [(0, .ref (B 29)), (1, .int a)] := hl
  have hx := C.1.1
  have hb := C.1.2.1
  have hNB : 36 ≤ N := by omega
  have hNN : 29 ≤ N := by omega
  refine lv_iconst (v := 0) hx hb dX4_allCanCommit_0 (by decide) ?_
  refine lv_istore_n (lv' := [(2, .int 0), (0, .ref (B 29)), (1, .int a)]) hx hb dX4_allCanCommit_1 rfl hl (by decide) rfl (fun ls hl => ?_)
  exact lp_X4_allCanCommit C hNn a hn8 n 0 0 u (by omega) hc rfl rfl rfl _ _ _ hN (lv_sub hl [1, 2, 0] rfl)
set_option maxRecDepth 20000 in
theorem kw_X4_allSwitched_X4 : ww_K wsX4_allSwitched RX4 TX4 8 tyX4 := ⟨by decide +kernel, tyX4_ok, nmX4⟩
set_option maxRecDepth 20000 in
theorem kw_X4_allSwitched_X1 : ww_K wsX4_allSwitched RX1 TX1 10 tyX1 := ⟨by decide +kernel, tyX1_ok, nmX1⟩
set_option maxRecDepth 20000 in
theorem kw_X4_allSwitched_X3 : ww_K wsX4_allSwitched RX3 TX3 8 tyX3 := ⟨by decide +kernel, tyX3_ok, nmX3⟩
set_option maxHeartbeats 4000000 in
set_option maxRecDepth 100000 in
theorem lp_X4_allSwitched {p : Program} {l : Launch} {e : Env} {s : State} {m : MethodId} {args : Array Value} {below : List Frame} {meth : Method} {c : Code} {D : va_G} {ca : Nat → ClassId} {B : Nat → Nat} {N n : Nat} {X : va_W} (C : ww_C D ca yX4_allSwitched.cls cX4_allSwitched 4 wsX4_allSwitched (some .boolean) (ww_A B N X s.heap.size) p s m args meth c) (hNn : 36 + 8 * n ≤ N) (a : Int32) (hn8 : n ≤ 8)  {r : Option Value} {u' : ww_U} : ∀ (d k : Nat) (x : Int32) (u : ww_U), k + d = n → (u 29 1 = nI n) → (x = nI k) → r = some (.int (cu_asw d k a u)) → u' = u → ∀ (H : Heap) (locs : List Loc) (ls : Array Slot), ww_N D ca B N n u X (ww_A B N X s.heap.size) s.heap H locs → lv_has ls 4 [(0, .ref (B 29)), (1, .int a), (2, .int x)] → W p l e (headSpec wsX4_allSwitched ({ frames := 1, cells := 0, slots := 0, locals := 21 } : Room)).room s m args below meth c H locs 0 0 (MQ below (ww_Q D ca B N n X s.heap.size r u') args s 0 0 (ww_A B N X s.heap.size)) (F0 m 2 ls []) := by
  have hx := C.1.1
  have hb := C.1.2.1
  have hNB : 36 ≤ N := by omega
  have hNN : 29 ≤ N := by omega
  intro d
  induction d with
  | zero =>
    intro k x u hkd hc hxk hr hu H locs ls hN hl
    refine lv_iload_n hx hb dX4_allSwitched_2 rfl (lv_at hl 2 rfl) ?_
    refine lv_aload_n hx hb dX4_allSwitched_3 rfl (lv_at hl 0 rfl) ?_
    refine rr_get C hN 29 (Nat.lt_of_lt_of_le (by decide) hNB) rfl rfl kw_X4_allSwitched_X4 1 (by decide) (List.mem_of_getElem? (i := 1) rfl) (v := .int (u 29 1)) rfl dX4_allSwitched_4 ?_
    refine lv_icmp_ge (tgt := 44) hx hb dX4_allSwitched_7 (by decide) (fun c_7 => ?_) (fun c_7 => absurd c_7 (fun h => h (by rw [hc, hxk, show k = n by omega]; exact nI_le (Nat.le_refl _) (by omega))))
    refine lv_iconst (v := 1) hx hb dX4_allSwitched_44 (by decide) ?_
    exact rr_zret C hN dX4_allSwitched_45 (by first | rfl | decide) (hr.trans rfl) hu
  | succ d ih =>
    intro k x u hkd hc hxk hr hu H locs ls hN hl
    have hkn : k < n := by omega
    refine lv_iload_n hx hb dX4_allSwitched_2 rfl (lv_at hl 2 rfl) ?_
    refine lv_aload_n hx hb dX4_allSwitched_3 rfl (lv_at hl 0 rfl) ?_
    refine rr_get C hN 29 (Nat.lt_of_lt_of_le (by decide) hNB) rfl rfl kw_X4_allSwitched_X4 1 (by decide) (List.mem_of_getElem? (i := 1) rfl) (v := .int (u 29 1)) rfl dX4_allSwitched_4 ?_
    refine lv_icmp_ge (tgt := 44) hx hb dX4_allSwitched_7 (by decide) (fun c_7 => absurd c_7 (by rw [hc, hxk]; exact nI_ge (by omega) (by omega))) (fun c_7 => ?_)
    refine lv_aload_n hx hb dX4_allSwitched_10 rfl (lv_at hl 0 rfl) ?_
    refine rr_get C hN 29 (Nat.lt_of_lt_of_le (by decide) hNB) rfl rfl kw_X4_allSwitched_X4 0 (by decide) (List.mem_of_getElem? (i := 2) rfl) (v := .ref (B 30)) rfl dX4_allSwitched_11 ?_
    refine lv_iload_n hx hb dX4_allSwitched_14 rfl (lv_at hl 2 rfl) ?_
    refine rr_ald C hN 30 (Nat.lt_of_lt_of_le (by decide) hNB) 3 rfl rfl (by decide) k (by omega) hxk (v := .ref (B (kC k))) (by simp only [if_pos hkn]; rfl) dX4_allSwitched_15 ?_
    refine rr_get C hN (kC k) (kC_lt hNn hkn) hC_ce rfl kw_X4_allSwitched_X1 2 (by decide) (List.mem_of_getElem? (i := 3) rfl) (v := .ref (B (kP k))) rfl dX4_allSwitched_16 ?_
    refine lv_astore_n (lv' := [(3, .ref (B (kP k))), (0, .ref (B 29)), (1, .int a), (2, .int x)]) hx hb dX4_allSwitched_19 rfl hl (by decide) rfl (fun ls hl => ?_)
    refine lv_aload_n hx hb dX4_allSwitched_20 rfl (lv_at hl 0 rfl) ?_
    refine lv_iload_n hx hb dX4_allSwitched_21 rfl (lv_at hl 2 rfl) ?_
    refine rr_callV (As := [.int a]) C hN (kP k) (kP_lt hNn hkn) hP_ce rfl rfl (ct_X3_isOf l hkn a hNn) gX4_allSwitched_X3_isOf rfl rfl rfl 1 (by decide +kernel) ⟨Nat.le_of_ble_eq_true rfl, Nat.le_of_ble_eq_true rfl⟩ rfl hl.1 rfl (Nat.le_of_ble_eq_true rfl) ⟨Nat.zero_le _, Nat.zero_le _⟩ dX4_allSwitched_22 (fun H locs hN => ?_)
    refine lv_topi (fun vs1 evs1 => ?_)
    refine lv_if_eq (tgt := 38) hx hb dX4_allSwitched_25 (by decide) (fun c_25 => ?_) (fun c_25 => ?_)
    · obtain ⟨vs2, evs2⟩ : ∃ y9 : Int32, y9 = x + 1 := ⟨_, rfl⟩
      refine lv_iinc (v := vs2) (lv' := [(2, .int vs2), (3, .ref (B (kP k))), (0, .ref (B 29)), (1, .int a)]) hx hb dX4_allSwitched_38 hl (k := 3) rfl (by rw [evs2]; rfl) (by decide) rfl (fun ls hl => ?_)
      refine lv_goto (tgt := 2) hx hb dX4_allSwitched_41 (by decide) ?_
      exact ih (k + 1) vs2 u (by omega) hc (by rw [evs2, hxk]; exact nI_1 k) (hr.trans (by subst_vars; first | rfl | (simp only [cu_asw]; done) | (simp only [cu_asw]; (repeat' split) <;> first | rfl | contradiction | simp_all))) (hu.trans (by subst_vars; first | rfl | (simp only [cu_asw]; done) | (simp only [cu_asw]; (repeat' split) <;> first | rfl | contradiction | simp_all))) H locs ls hN (lv_sub hl [2, 3, 0] rfl)
    · refine lv_aload_n hx hb dX4_allSwitched_28 rfl (lv_at hl 0 rfl) ?_
      refine rr_get C hN (kP k) (kP_lt hNn hkn) hP_ce rfl kw_X4_allSwitched_X3 4 (by decide) (List.mem_of_getElem? (i := 4) rfl) (v := .int (u (kP k) 4)) rfl dX4_allSwitched_29 ?_
      refine lv_iconst (v := 3) hx hb dX4_allSwitched_32 (by decide) ?_
      refine lv_icmp_eq (tgt := 38) hx hb dX4_allSwitched_33 (by decide) (fun c_33 => ?_) (fun c_33 => ?_)
      · obtain ⟨vs3, evs3⟩ : ∃ y9 : Int32, y9 = x + 1 := ⟨_, rfl⟩
        refine lv_iinc (v := vs3) (lv' := [(2, .int vs3), (3, .ref (B (kP k))), (0, .ref (B 29)), (1, .int a)]) hx hb dX4_allSwitched_38 hl (k := 3) rfl (by rw [evs3]; rfl) (by decide) rfl (fun ls hl => ?_)
        refine lv_goto (tgt := 2) hx hb dX4_allSwitched_41 (by decide) ?_
        exact ih (k + 1) vs3 u (by omega) hc (by rw [evs3, hxk]; exact nI_1 k) (hr.trans (by subst_vars; first | rfl | (simp only [cu_asw]; done) | (simp only [cu_asw]; (repeat' split) <;> first | rfl | contradiction | simp_all))) (hu.trans (by subst_vars; first | rfl | (simp only [cu_asw]; done) | (simp only [cu_asw]; (repeat' split) <;> first | rfl | contradiction | simp_all))) H locs ls hN (lv_sub hl [2, 3, 0] rfl)
      · refine lv_iconst (v := 0) hx hb dX4_allSwitched_36 (by decide) ?_
        exact rr_zret C hN dX4_allSwitched_37 (by first | rfl | decide) (hr.trans (by subst_vars; first | rfl | (simp only [cu_asw]; done) | (simp only [cu_asw]; (repeat' split) <;> first | rfl | contradiction | simp_all))) hu
set_option maxHeartbeats 4000000 in
set_option maxRecDepth 100000 in
theorem ct_X4_allSwitched (l : Launch) {D : va_G} {ca : Nat → ClassId} {B : Nat → Nat} {N n : Nat} {X : va_W} {u : ww_U} (a : Int32) (hNn : 36 + 8 * n ≤ N) (hn8 : n ≤ 8) (hc : u 29 1 = nI n) : ww_M l yX4_allSwitched wsX4_allSwitched ({ frames := 1, cells := 0, slots := 0, locals := 21 } : Room) D ca B N n X u [.ref (B 29), .int a] (some (.int (cu_asw n 0 a u))) u := by
  refine ww_met (cc := cX4_allSwitched) (maxL := 4) (ret := (some .boolean)) (by decide) rfl (Nat.le_of_ble_eq_true rfl) ?_
  intro p e s m args below meth c C hN ls hl
  have hl : lv_has ls 4 [(0, .ref (B 29)), (1, .int a)] := hl
  have hx := C.1.1
  have hb := C.1.2.1
  have hNB : 36 ≤ N := by omega
  have hNN : 29 ≤ N := by omega
  refine lv_iconst (v := 0) hx hb dX4_allSwitched_0 (by decide) ?_
  refine lv_istore_n (lv' := [(2, .int 0), (0, .ref (B 29)), (1, .int a)]) hx hb dX4_allSwitched_1 rfl hl (by decide) rfl (fun ls hl => ?_)
  exact lp_X4_allSwitched C hNn a hn8 n 0 0 u (by omega) hc rfl rfl rfl _ _ _ hN (lv_sub hl [1, 2, 0] rfl)
set_option maxRecDepth 20000 in
theorem kw_X4_commit_X4 : ww_K wsX4_commit RX4 TX4 8 tyX4 := ⟨by decide +kernel, tyX4_ok, nmX4⟩
set_option maxRecDepth 20000 in
theorem kw_X4_commit_X1 : ww_K wsX4_commit RX1 TX1 10 tyX1 := ⟨by decide +kernel, tyX1_ok, nmX1⟩
set_option maxRecDepth 20000 in
theorem kw_X4_commit_X3 : ww_K wsX4_commit RX3 TX3 8 tyX3 := ⟨by decide +kernel, tyX3_ok, nmX3⟩
set_option maxHeartbeats 4000000 in
set_option maxRecDepth 100000 in
theorem lp_X4_commit {p : Program} {l : Launch} {e : Env} {s : State} {m : MethodId} {args : Array Value} {below : List Frame} {meth : Method} {c : Code} {D : va_G} {ca : Nat → ClassId} {B : Nat → Nat} {N n : Nat} {X : va_W} (C : ww_C D ca yX4_commit.cls cX4_commit 4 wsX4_commit none (ww_A B N X s.heap.size) p s m args meth c) (hNn : 36 + 8 * n ≤ N) (a : Int32) (hn8 : n ≤ 8)  {r : Option Value} {u' : ww_U} : ∀ (d k : Nat) (x : Int32) (u : ww_U), k + d = n → (u 29 1 = nI n) → (x = nI k) → r = none → u' = cu_com d k a u → ∀ (H : Heap) (locs : List Loc) (ls : Array Slot), ww_N D ca B N n u X (ww_A B N X s.heap.size) s.heap H locs → lv_has ls 4 [(0, .ref (B 29)), (1, .int a), (2, .int x)] → W p l e (headSpec wsX4_commit ({ frames := 1, cells := 0, slots := 0, locals := 21 } : Room)).room s m args below meth c H locs 0 0 (MQ below (ww_Q D ca B N n X s.heap.size r u') args s 0 0 (ww_A B N X s.heap.size)) (F0 m 2 ls []) := by
  have hx := C.1.1
  have hb := C.1.2.1
  have hNB : 36 ≤ N := by omega
  have hNN : 29 ≤ N := by omega
  intro d
  induction d with
  | zero =>
    intro k x u hkd hc hxk hr hu H locs ls hN hl
    refine lv_iload_n hx hb dX4_commit_2 rfl (lv_at hl 2 rfl) ?_
    refine lv_aload_n hx hb dX4_commit_3 rfl (lv_at hl 0 rfl) ?_
    refine rr_get C hN 29 (Nat.lt_of_lt_of_le (by decide) hNB) rfl rfl kw_X4_commit_X4 1 (by decide) (List.mem_of_getElem? (i := 1) rfl) (v := .int (u 29 1)) rfl dX4_commit_4 ?_
    refine lv_icmp_ge (tgt := 39) hx hb dX4_commit_7 (by decide) (fun c_7 => ?_) (fun c_7 => absurd c_7 (fun h => h (by rw [hc, hxk, show k = n by omega]; exact nI_le (Nat.le_refl _) (by omega))))
    exact rr_vret C hN dX4_commit_39 hr hu
  | succ d ih =>
    intro k x u hkd hc hxk hr hu H locs ls hN hl
    have hkn : k < n := by omega
    refine lv_iload_n hx hb dX4_commit_2 rfl (lv_at hl 2 rfl) ?_
    refine lv_aload_n hx hb dX4_commit_3 rfl (lv_at hl 0 rfl) ?_
    refine rr_get C hN 29 (Nat.lt_of_lt_of_le (by decide) hNB) rfl rfl kw_X4_commit_X4 1 (by decide) (List.mem_of_getElem? (i := 1) rfl) (v := .int (u 29 1)) rfl dX4_commit_4 ?_
    refine lv_icmp_ge (tgt := 39) hx hb dX4_commit_7 (by decide) (fun c_7 => absurd c_7 (by rw [hc, hxk]; exact nI_ge (by omega) (by omega))) (fun c_7 => ?_)
    refine lv_aload_n hx hb dX4_commit_10 rfl (lv_at hl 0 rfl) ?_
    refine rr_get C hN 29 (Nat.lt_of_lt_of_le (by decide) hNB) rfl rfl kw_X4_commit_X4 0 (by decide) (List.mem_of_getElem? (i := 2) rfl) (v := .ref (B 30)) rfl dX4_commit_11 ?_
    refine lv_iload_n hx hb dX4_commit_14 rfl (lv_at hl 2 rfl) ?_
    refine rr_ald C hN 30 (Nat.lt_of_lt_of_le (by decide) hNB) 3 rfl rfl (by decide) k (by omega) hxk (v := .ref (B (kC k))) (by simp only [if_pos hkn]; rfl) dX4_commit_15 ?_
    refine rr_get C hN (kC k) (kC_lt hNn hkn) hC_ce rfl kw_X4_commit_X1 2 (by decide) (List.mem_of_getElem? (i := 3) rfl) (v := .ref (B (kP k))) rfl dX4_commit_16 ?_
    refine lv_astore_n (lv' := [(3, .ref (B (kP k))), (0, .ref (B 29)), (1, .int a), (2, .int x)]) hx hb dX4_commit_19 rfl hl (by decide) rfl (fun ls hl => ?_)
    refine lv_aload_n hx hb dX4_commit_20 rfl (lv_at hl 0 rfl) ?_
    refine lv_iload_n hx hb dX4_commit_21 rfl (lv_at hl 2 rfl) ?_
    refine rr_callV (As := [.int a]) C hN (kP k) (kP_lt hNn hkn) hP_ce rfl rfl (ct_X3_isOf l hkn a hNn) gX4_commit_X3_isOf rfl rfl rfl 1 (by decide +kernel) ⟨Nat.le_of_ble_eq_true rfl, Nat.le_of_ble_eq_true rfl⟩ rfl hl.1 rfl (Nat.le_of_ble_eq_true rfl) ⟨Nat.zero_le _, Nat.zero_le _⟩ dX4_commit_22 (fun H locs hN => ?_)
    refine lv_topi (fun vs1 evs1 => ?_)
    refine lv_if_eq (tgt := 33) hx hb dX4_commit_25 (by decide) (fun c_25 => ?_) (fun c_25 => ?_)
    · obtain ⟨vs2, evs2⟩ : ∃ y9 : Int32, y9 = x + 1 := ⟨_, rfl⟩
      refine lv_iinc (v := vs2) (lv' := [(2, .int vs2), (3, .ref (B (kP k))), (0, .ref (B 29)), (1, .int a)]) hx hb dX4_commit_33 hl (k := 3) rfl (by rw [evs2]; rfl) (by decide) rfl (fun ls hl => ?_)
      refine lv_goto (tgt := 2) hx hb dX4_commit_36 (by decide) ?_
      exact ih (k + 1) vs2 u (by omega) hc (by rw [evs2, hxk]; exact nI_1 k) (hr.trans (by subst_vars; first | rfl | (simp only [cu_com]; done) | (simp only [cu_com]; (repeat' split) <;> first | rfl | contradiction | simp_all))) (hu.trans (by subst_vars; first | rfl | (simp only [cu_com]; done) | (simp only [cu_com]; (repeat' split) <;> first | rfl | contradiction | simp_all))) H locs ls hN (lv_sub hl [2, 3, 0] rfl)
    · refine lv_aload_n hx hb dX4_commit_28 rfl (lv_at hl 0 rfl) ?_
      refine lv_iconst (v := 1) hx hb dX4_commit_29 (by decide) ?_
      refine rr_put C hN (kP k) (kP_lt hNn hkn) hP_ce rfl kw_X4_commit_X3 7 (by decide) (List.mem_of_getElem? (i := 4) rfl) rfl (x := 1) (by decide) (by decide) (Nat.le_of_ble_eq_true rfl) (hP_ce.trans rfl) dX4_commit_30 (fun us3 eus3 H locs hN => ?_)
      obtain ⟨vs4, evs4⟩ : ∃ y9 : Int32, y9 = x + 1 := ⟨_, rfl⟩
      refine lv_iinc (v := vs4) (lv' := [(2, .int vs4), (3, .ref (B (kP k))), (0, .ref (B 29)), (1, .int a)]) hx hb dX4_commit_33 hl (k := 3) rfl (by rw [evs4]; rfl) (by decide) rfl (fun ls hl => ?_)
      refine lv_goto (tgt := 2) hx hb dX4_commit_36 (by decide) ?_
      exact ih (k + 1) vs4 us3 (by omega) (by subst_vars; first | exact hc | (rw [ww_up_ne (by simp only [kC, kP]; omega)]; exact hc) | (rw [ww_up_ne (by simp only [kC, kP]; omega), ww_up_ne (by simp only [kC, kP]; omega)]; exact hc)) (by rw [evs4, hxk]; exact nI_1 k) (hr.trans (by subst_vars; first | rfl | (simp only [cu_com]; done) | (simp only [cu_com]; (repeat' split) <;> first | rfl | contradiction | simp_all))) (hu.trans (by subst_vars; first | rfl | (simp only [cu_com]; done) | (simp only [cu_com]; (repeat' split) <;> first | rfl | contradiction | simp_all))) H locs ls hN (lv_sub hl [2, 3, 0] rfl)
set_option maxHeartbeats 4000000 in
set_option maxRecDepth 100000 in
theorem ct_X4_commit (l : Launch) {D : va_G} {ca : Nat → ClassId} {B : Nat → Nat} {N n : Nat} {X : va_W} {u : ww_U} (a : Int32) (hNn : 36 + 8 * n ≤ N) (hn8 : n ≤ 8) (hc : u 29 1 = nI n) : ww_M l yX4_commit wsX4_commit ({ frames := 1, cells := 0, slots := 0, locals := 21 } : Room) D ca B N n X u [.ref (B 29), .int a] none (cu_com n 0 a u) := by
  refine ww_met (cc := cX4_commit) (maxL := 4) (ret := none) (by decide) rfl (Nat.le_of_ble_eq_true rfl) ?_
  intro p e s m args below meth c C hN ls hl
  have hl : lv_has ls 4 [(0, .ref (B 29)), (1, .int a)] := hl
  have hx := C.1.1
  have hb := C.1.2.1
  have hNB : 36 ≤ N := by omega
  have hNN : 29 ≤ N := by omega
  refine lv_iconst (v := 0) hx hb dX4_commit_0 (by decide) ?_
  refine lv_istore_n (lv' := [(2, .int 0), (0, .ref (B 29)), (1, .int a)]) hx hb dX4_commit_1 rfl hl (by decide) rfl (fun ls hl => ?_)
  exact lp_X4_commit C hNn a hn8 n 0 0 u (by omega) hc rfl rfl rfl _ _ _ hN (lv_sub hl [1, 2, 0] rfl)
set_option maxRecDepth 20000 in
theorem kw_X4_makeLastSet_X4 : ww_K wsX4_makeLastSet RX4 TX4 8 tyX4 := ⟨by decide +kernel, tyX4_ok, nmX4⟩
set_option maxRecDepth 20000 in
theorem kw_X4_makeLastSet_X1 : ww_K wsX4_makeLastSet RX1 TX1 10 tyX1 := ⟨by decide +kernel, tyX1_ok, nmX1⟩
set_option maxRecDepth 20000 in
theorem kw_X4_makeLastSet_X3 : ww_K wsX4_makeLastSet RX3 TX3 8 tyX3 := ⟨by decide +kernel, tyX3_ok, nmX3⟩
set_option maxHeartbeats 4000000 in
set_option maxRecDepth 100000 in
theorem lp_X4_makeLastSet {p : Program} {l : Launch} {e : Env} {s : State} {m : MethodId} {args : Array Value} {below : List Frame} {meth : Method} {c : Code} {D : va_G} {ca : Nat → ClassId} {B : Nat → Nat} {N n : Nat} {X : va_W} (C : ww_C D ca yX4_makeLastSet.cls cX4_makeLastSet 4 wsX4_makeLastSet none (ww_A B N X s.heap.size) p s m args meth c) (hNn : 36 + 8 * n ≤ N) (a : Int32) (hn8 : n ≤ 8)  {r : Option Value} {u' : ww_U} : ∀ (d k : Nat) (x : Int32) (u : ww_U), k + d = n → (u 29 1 = nI n) → (x = nI k) → r = none → u' = cu_mls d k a u → ∀ (H : Heap) (locs : List Loc) (ls : Array Slot), ww_N D ca B N n u X (ww_A B N X s.heap.size) s.heap H locs → lv_has ls 4 [(0, .ref (B 29)), (1, .int a), (2, .int x)] → W p l e (headSpec wsX4_makeLastSet ({ frames := 1, cells := 0, slots := 0, locals := 21 } : Room)).room s m args below meth c H locs 0 0 (MQ below (ww_Q D ca B N n X s.heap.size r u') args s 0 0 (ww_A B N X s.heap.size)) (F0 m 2 ls []) := by
  have hx := C.1.1
  have hb := C.1.2.1
  have hNB : 36 ≤ N := by omega
  have hNN : 29 ≤ N := by omega
  intro d
  induction d with
  | zero =>
    intro k x u hkd hc hxk hr hu H locs ls hN hl
    refine lv_iload_n hx hb dX4_makeLastSet_2 rfl (lv_at hl 2 rfl) ?_
    refine lv_aload_n hx hb dX4_makeLastSet_3 rfl (lv_at hl 0 rfl) ?_
    refine rr_get C hN 29 (Nat.lt_of_lt_of_le (by decide) hNB) rfl rfl kw_X4_makeLastSet_X4 1 (by decide) (List.mem_of_getElem? (i := 1) rfl) (v := .int (u 29 1)) rfl dX4_makeLastSet_4 ?_
    refine lv_icmp_ge (tgt := 61) hx hb dX4_makeLastSet_7 (by decide) (fun c_7 => ?_) (fun c_7 => absurd c_7 (fun h => h (by rw [hc, hxk, show k = n by omega]; exact nI_le (Nat.le_refl _) (by omega))))
    exact rr_vret C hN dX4_makeLastSet_61 hr hu
  | succ d ih =>
    intro k x u hkd hc hxk hr hu H locs ls hN hl
    have hkn : k < n := by omega
    refine lv_iload_n hx hb dX4_makeLastSet_2 rfl (lv_at hl 2 rfl) ?_
    refine lv_aload_n hx hb dX4_makeLastSet_3 rfl (lv_at hl 0 rfl) ?_
    refine rr_get C hN 29 (Nat.lt_of_lt_of_le (by decide) hNB) rfl rfl kw_X4_makeLastSet_X4 1 (by decide) (List.mem_of_getElem? (i := 1) rfl) (v := .int (u 29 1)) rfl dX4_makeLastSet_4 ?_
    refine lv_icmp_ge (tgt := 61) hx hb dX4_makeLastSet_7 (by decide) (fun c_7 => absurd c_7 (by rw [hc, hxk]; exact nI_ge (by omega) (by omega))) (fun c_7 => ?_)
    refine lv_aload_n hx hb dX4_makeLastSet_10 rfl (lv_at hl 0 rfl) ?_
    refine rr_get C hN 29 (Nat.lt_of_lt_of_le (by decide) hNB) rfl rfl kw_X4_makeLastSet_X4 0 (by decide) (List.mem_of_getElem? (i := 2) rfl) (v := .ref (B 30)) rfl dX4_makeLastSet_11 ?_
    refine lv_iload_n hx hb dX4_makeLastSet_14 rfl (lv_at hl 2 rfl) ?_
    refine rr_ald C hN 30 (Nat.lt_of_lt_of_le (by decide) hNB) 3 rfl rfl (by decide) k (by omega) hxk (v := .ref (B (kC k))) (by simp only [if_pos hkn]; rfl) dX4_makeLastSet_15 ?_
    refine lv_astore_n (lv' := [(3, .ref (B (kC k))), (0, .ref (B 29)), (1, .int a), (2, .int x)]) hx hb dX4_makeLastSet_16 rfl hl (by decide) rfl (fun ls hl => ?_)
    refine lv_aload_n hx hb dX4_makeLastSet_17 rfl (lv_at hl 0 rfl) ?_
    refine rr_get C hN (kC k) (kC_lt hNn hkn) hC_ce rfl kw_X4_makeLastSet_X1 2 (by decide) (List.mem_of_getElem? (i := 3) rfl) (v := .ref (B (kP k))) rfl dX4_makeLastSet_18 ?_
    refine lv_iload_n hx hb dX4_makeLastSet_21 rfl (lv_at hl 2 rfl) ?_
    refine rr_callV (As := [.int a]) C hN (kP k) (kP_lt hNn hkn) hP_ce rfl rfl (ct_X3_isOf l hkn a hNn) gX4_makeLastSet_X3_isOf rfl rfl rfl 1 (by decide +kernel) ⟨Nat.le_of_ble_eq_true rfl, Nat.le_of_ble_eq_true rfl⟩ rfl hl.1 rfl (Nat.le_of_ble_eq_true rfl) ⟨Nat.zero_le _, Nat.zero_le _⟩ dX4_makeLastSet_22 (fun H locs hN => ?_)
    refine lv_topi (fun vs1 evs1 => ?_)
    refine lv_if_eq (tgt := 50) hx hb dX4_makeLastSet_25 (by decide) (fun c_25 => ?_) (fun c_25 => ?_)
    · refine lv_aload_n hx hb dX4_makeLastSet_50 rfl (lv_at hl 0 rfl) ?_
      refine lv_iconst (v := 0) hx hb dX4_makeLastSet_51 (by decide) ?_
      refine rr_put C hN (kC k) (kC_lt hNn hkn) hC_ce rfl kw_X4_makeLastSet_X1 9 (by decide) (List.mem_of_getElem? (i := 5) rfl) rfl (x := 0) rfl rfl (Nat.le_of_ble_eq_true rfl) (hC_ce.trans rfl) dX4_makeLastSet_52 (fun us2 eus2 H locs hN => ?_)
      obtain ⟨vs3, evs3⟩ : ∃ y9 : Int32, y9 = x + 1 := ⟨_, rfl⟩
      refine lv_iinc (v := vs3) (lv' := [(2, .int vs3), (3, .ref (B (kC k))), (0, .ref (B 29)), (1, .int a)]) hx hb dX4_makeLastSet_55 hl (k := 3) rfl (by rw [evs3]; rfl) (by decide) rfl (fun ls hl => ?_)
      refine lv_goto (tgt := 2) hx hb dX4_makeLastSet_58 (by decide) ?_
      exact ih (k + 1) vs3 us2 (by omega) (by subst_vars; first | exact hc | (rw [ww_up_ne (by simp only [kC, kP]; omega)]; exact hc) | (rw [ww_up_ne (by simp only [kC, kP]; omega), ww_up_ne (by simp only [kC, kP]; omega)]; exact hc)) (by rw [evs3, hxk]; exact nI_1 k) (hr.trans (by subst_vars; first | rfl | (simp only [cu_mls]; done) | (simp only [cu_mls]; (repeat' split) <;> first | rfl | contradiction | simp_all))) (hu.trans (by subst_vars; first | rfl | (simp only [cu_mls]; done) | (simp only [cu_mls]; (repeat' split) <;> first | rfl | contradiction | simp_all))) H locs ls hN (lv_sub hl [2, 3, 0] rfl)
    · refine lv_aload_n hx hb dX4_makeLastSet_28 rfl (lv_at hl 0 rfl) ?_
      refine lv_aload_n hx hb dX4_makeLastSet_29 rfl (lv_at hl 0 rfl) ?_
      refine rr_get C hN (kC k) (kC_lt hNn hkn) hC_ce rfl kw_X4_makeLastSet_X1 2 (by decide) (List.mem_of_getElem? (i := 3) rfl) (v := .ref (B (kP k))) rfl dX4_makeLastSet_30 ?_
      refine rr_get C hN (kP k) (kP_lt hNn hkn) hP_ce rfl kw_X4_makeLastSet_X3 2 (by decide) (List.mem_of_getElem? (i := 4) rfl) (v := .int (u (kP k) 2)) rfl dX4_makeLastSet_33 ?_
      refine rr_put C hN (kC k) (kC_lt hNn hkn) hC_ce rfl kw_X4_makeLastSet_X1 9 (by decide) (List.mem_of_getElem? (i := 5) rfl) rfl (x := (u (kP k) 2)) rfl rfl (Nat.le_of_ble_eq_true rfl) (hC_ce.trans rfl) dX4_makeLastSet_36 (fun us4 eus4 H locs hN => ?_)
      refine lv_aload_n hx hb dX4_makeLastSet_39 rfl (lv_at hl 0 rfl) ?_
      refine rr_get C hN (kC k) (kC_lt hNn hkn) hC_ce rfl kw_X4_makeLastSet_X1 2 (by decide) (List.mem_of_getElem? (i := 3) rfl) (v := .ref (B (kP k))) rfl dX4_makeLastSet_40 ?_
      refine lv_iconst (v := 0) hx hb dX4_makeLastSet_43 (by decide) ?_
      refine rr_put C hN (kP k) (kP_lt hNn hkn) hP_ce rfl kw_X4_makeLastSet_X3 4 (by decide) (List.mem_of_getElem? (i := 6) rfl) rfl (x := 0) rfl rfl (Nat.le_of_ble_eq_true rfl) (hP_ce.trans rfl) dX4_makeLastSet_44 (fun us5 eus5 H locs hN => ?_)
      refine lv_goto (tgt := 55) hx hb dX4_makeLastSet_47 (by decide) ?_
      obtain ⟨vs6, evs6⟩ : ∃ y9 : Int32, y9 = x + 1 := ⟨_, rfl⟩
      refine lv_iinc (v := vs6) (lv' := [(2, .int vs6), (3, .ref (B (kC k))), (0, .ref (B 29)), (1, .int a)]) hx hb dX4_makeLastSet_55 hl (k := 3) rfl (by rw [evs6]; rfl) (by decide) rfl (fun ls hl => ?_)
      refine lv_goto (tgt := 2) hx hb dX4_makeLastSet_58 (by decide) ?_
      exact ih (k + 1) vs6 us5 (by omega) (by subst_vars; first | exact hc | (rw [ww_up_ne (by simp only [kC, kP]; omega)]; exact hc) | (rw [ww_up_ne (by simp only [kC, kP]; omega), ww_up_ne (by simp only [kC, kP]; omega)]; exact hc)) (by rw [evs6, hxk]; exact nI_1 k) (hr.trans (by subst_vars; first | rfl | (simp only [cu_mls]; done) | (simp only [cu_mls]; (repeat' split) <;> first | rfl | contradiction | simp_all))) (hu.trans (by subst_vars; first | rfl | (simp only [cu_mls]; done) | (simp only [cu_mls]; (repeat' split) <;> first | rfl | contradiction | simp_all))) H locs ls hN (lv_sub hl [2, 3, 0] rfl)
set_option maxHeartbeats 4000000 in
set_option maxRecDepth 100000 in
theorem ct_X4_makeLastSet (l : Launch) {D : va_G} {ca : Nat → ClassId} {B : Nat → Nat} {N n : Nat} {X : va_W} {u : ww_U} (a : Int32) (hNn : 36 + 8 * n ≤ N) (hn8 : n ≤ 8) (hc : u 29 1 = nI n) : ww_M l yX4_makeLastSet wsX4_makeLastSet ({ frames := 1, cells := 0, slots := 0, locals := 21 } : Room) D ca B N n X u [.ref (B 29), .int a] none (cu_mls n 0 a u) := by
  refine ww_met (cc := cX4_makeLastSet) (maxL := 4) (ret := none) (by decide) rfl (Nat.le_of_ble_eq_true rfl) ?_
  intro p e s m args below meth c C hN ls hl
  have hl : lv_has ls 4 [(0, .ref (B 29)), (1, .int a)] := hl
  have hx := C.1.1
  have hb := C.1.2.1
  have hNB : 36 ≤ N := by omega
  have hNN : 29 ≤ N := by omega
  refine lv_iconst (v := 0) hx hb dX4_makeLastSet_0 (by decide) ?_
  refine lv_istore_n (lv' := [(2, .int 0), (0, .ref (B 29)), (1, .int a)]) hx hb dX4_makeLastSet_1 rfl hl (by decide) rfl (fun ls hl => ?_)
  exact lp_X4_makeLastSet C hNn a hn8 n 0 0 u (by omega) hc rfl rfl rfl _ _ _ hN (lv_sub hl [1, 2, 0] rfl)
set_option maxRecDepth 20000 in
theorem kw_X4_joinSets_X4 : ww_K wsX4_joinSets RX4 TX4 8 tyX4 := ⟨by decide +kernel, tyX4_ok, nmX4⟩
set_option maxRecDepth 20000 in
theorem kw_X4_joinSets_X1 : ww_K wsX4_joinSets RX1 TX1 10 tyX1 := ⟨by decide +kernel, tyX1_ok, nmX1⟩
set_option maxRecDepth 20000 in
theorem kw_X4_joinSets_X3 : ww_K wsX4_joinSets RX3 TX3 8 tyX3 := ⟨by decide +kernel, tyX3_ok, nmX3⟩
set_option maxHeartbeats 4000000 in
set_option maxRecDepth 100000 in
theorem lp_X4_joinSets {p : Program} {l : Launch} {e : Env} {s : State} {m : MethodId} {args : Array Value} {below : List Frame} {meth : Method} {c : Code} {D : va_G} {ca : Nat → ClassId} {B : Nat → Nat} {N n : Nat} {X : va_W} (C : ww_C D ca yX4_joinSets.cls cX4_joinSets 6 wsX4_joinSets (some .int) (ww_A B N X s.heap.size) p s m args meth c) (hNn : 36 + 8 * n ≤ N) (a b : Int32) (hn8 : n ≤ 8)  {r : Option Value} {u' : ww_U} : ∀ (d k : Nat) (q : Int32) (x : Int32) (u : ww_U), k + d = n → (u 29 1 = nI n) → (x = nI k) → r = some (.int (cu_join d k a b u q).2) → u' = (cu_join d k a b u q).1 → ∀ (H : Heap) (locs : List Loc) (ls : Array Slot), ww_N D ca B N n u X (ww_A B N X s.heap.size) s.heap H locs → lv_has ls 6 [(0, .ref (B 29)), (1, .int a), (2, .int b), (3, .int q), (4, .int x)] → W p l e (headSpec wsX4_joinSets ({ frames := 1, cells := 0, slots := 0, locals := 21 } : Room)).room s m args below meth c H locs 0 0 (MQ below (ww_Q D ca B N n X s.heap.size r u') args s 0 0 (ww_A B N X s.heap.size)) (F0 m 5 ls []) := by
  have hx := C.1.1
  have hb := C.1.2.1
  have hNB : 36 ≤ N := by omega
  have hNN : 29 ≤ N := by omega
  intro d
  induction d with
  | zero =>
    intro k q x u hkd hc hxk hr hu H locs ls hN hl
    refine lv_iload hx hb dX4_joinSets_5 (lv_at hl 4 rfl) ?_
    refine lv_aload_n hx hb dX4_joinSets_7 rfl (lv_at hl 0 rfl) ?_
    refine rr_get C hN 29 (Nat.lt_of_lt_of_le (by decide) hNB) rfl rfl kw_X4_joinSets_X4 1 (by decide) (List.mem_of_getElem? (i := 1) rfl) (v := .int (u 29 1)) rfl dX4_joinSets_8 ?_
    refine lv_icmp_ge (tgt := 59) hx hb dX4_joinSets_11 (by decide) (fun c_11 => ?_) (fun c_11 => absurd c_11 (fun h => h (by rw [hc, hxk, show k = n by omega]; exact nI_le (Nat.le_refl _) (by omega))))
    refine lv_iload_n hx hb dX4_joinSets_59 rfl (lv_at hl 3 rfl) ?_
    exact rr_iret C hN dX4_joinSets_60 hr hu
  | succ d ih =>
    intro k q x u hkd hc hxk hr hu H locs ls hN hl
    have hkn : k < n := by omega
    refine lv_iload hx hb dX4_joinSets_5 (lv_at hl 4 rfl) ?_
    refine lv_aload_n hx hb dX4_joinSets_7 rfl (lv_at hl 0 rfl) ?_
    refine rr_get C hN 29 (Nat.lt_of_lt_of_le (by decide) hNB) rfl rfl kw_X4_joinSets_X4 1 (by decide) (List.mem_of_getElem? (i := 1) rfl) (v := .int (u 29 1)) rfl dX4_joinSets_8 ?_
    refine lv_icmp_ge (tgt := 59) hx hb dX4_joinSets_11 (by decide) (fun c_11 => absurd c_11 (by rw [hc, hxk]; exact nI_ge (by omega) (by omega))) (fun c_11 => ?_)
    refine lv_aload_n hx hb dX4_joinSets_14 rfl (lv_at hl 0 rfl) ?_
    refine rr_get C hN 29 (Nat.lt_of_lt_of_le (by decide) hNB) rfl rfl kw_X4_joinSets_X4 0 (by decide) (List.mem_of_getElem? (i := 2) rfl) (v := .ref (B 30)) rfl dX4_joinSets_15 ?_
    refine lv_iload hx hb dX4_joinSets_18 (lv_at hl 4 rfl) ?_
    refine rr_ald C hN 30 (Nat.lt_of_lt_of_le (by decide) hNB) 3 rfl rfl (by decide) k (by omega) hxk (v := .ref (B (kC k))) (by simp only [if_pos hkn]; rfl) dX4_joinSets_20 ?_
    refine rr_get C hN (kC k) (kC_lt hNn hkn) hC_ce rfl kw_X4_joinSets_X1 2 (by decide) (List.mem_of_getElem? (i := 3) rfl) (v := .ref (B (kP k))) rfl dX4_joinSets_21 ?_
    refine lv_astore (lv' := [(5, .ref (B (kP k))), (0, .ref (B 29)), (1, .int a), (2, .int b), (3, .int q), (4, .int x)]) hx hb dX4_joinSets_24 hl (by decide) rfl (fun ls hl => ?_)
    refine lv_aload hx hb dX4_joinSets_26 (lv_at hl 0 rfl) ?_
    refine lv_iload_n hx hb dX4_joinSets_28 rfl (lv_at hl 2 rfl) ?_
    refine rr_callV (As := [.int a]) C hN (kP k) (kP_lt hNn hkn) hP_ce rfl rfl (ct_X3_isOf l hkn a hNn) gX4_joinSets_X3_isOf rfl rfl rfl 1 (by decide +kernel) ⟨Nat.le_of_ble_eq_true rfl, Nat.le_of_ble_eq_true rfl⟩ rfl hl.1 rfl (Nat.le_of_ble_eq_true rfl) ⟨Nat.zero_le _, Nat.zero_le _⟩ dX4_joinSets_29 (fun H locs hN => ?_)
    refine lv_topi (fun vs1 evs1 => ?_)
    refine lv_if_ne (tgt := 44) hx hb dX4_joinSets_32 (by decide) (fun c_32 => ?_) (fun c_32 => ?_)
    · refine lv_aload hx hb dX4_joinSets_44 (lv_at hl 0 rfl) ?_
      refine lv_iload_n hx hb dX4_joinSets_46 rfl (lv_at hl 2 rfl) ?_
      refine rr_put C hN (kP k) (kP_lt hNn hkn) hP_ce rfl kw_X4_joinSets_X3 6 (by decide) (List.mem_of_getElem? (i := 4) rfl) rfl (x := a) rfl rfl (Nat.le_of_ble_eq_true rfl) (hP_ce.trans rfl) dX4_joinSets_47 (fun us2 eus2 H locs hN => ?_)
      obtain ⟨vs3, evs3⟩ : ∃ y9 : Int32, y9 = q + 1 := ⟨_, rfl⟩
      refine lv_iinc (v := vs3) (lv' := [(3, .int vs3), (5, .ref (B (kP k))), (0, .ref (B 29)), (1, .int a), (2, .int b), (4, .int x)]) hx hb dX4_joinSets_50 hl (k := 4) rfl (by rw [evs3]; rfl) (by decide) rfl (fun ls hl => ?_)
      obtain ⟨vs4, evs4⟩ : ∃ y9 : Int32, y9 = x + 1 := ⟨_, rfl⟩
      refine lv_iinc (v := vs4) (lv' := [(4, .int vs4), (3, .int vs3), (5, .ref (B (kP k))), (0, .ref (B 29)), (1, .int a), (2, .int b)]) hx hb dX4_joinSets_53 hl (k := 5) rfl (by rw [evs4]; rfl) (by decide) rfl (fun ls hl => ?_)
      refine lv_goto (tgt := 5) hx hb dX4_joinSets_56 (by decide) ?_
      exact ih (k + 1) vs3 vs4 us2 (by omega) (by subst_vars; first | exact hc | (rw [ww_up_ne (by simp only [kC, kP]; omega)]; exact hc) | (rw [ww_up_ne (by simp only [kC, kP]; omega), ww_up_ne (by simp only [kC, kP]; omega)]; exact hc)) (by rw [evs4, hxk]; exact nI_1 k) (hr.trans (by subst_vars; first | rfl | (simp only [cu_join]; done) | (simp only [cu_join]; (repeat' split) <;> first | rfl | contradiction | simp_all))) (hu.trans (by subst_vars; first | rfl | (simp only [cu_join]; done) | (simp only [cu_join]; (repeat' split) <;> first | rfl | contradiction | simp_all))) H locs ls hN (lv_sub hl [3, 4, 5, 1, 0] rfl)
    · refine lv_aload hx hb dX4_joinSets_35 (lv_at hl 0 rfl) ?_
      refine lv_iload_n hx hb dX4_joinSets_37 rfl (lv_at hl 3 rfl) ?_
      refine rr_callV (As := [.int b]) C hN (kP k) (kP_lt hNn hkn) hP_ce rfl rfl (ct_X3_isOf l hkn b hNn) gX4_joinSets_X3_isOf rfl rfl rfl 1 (by decide +kernel) ⟨Nat.le_of_ble_eq_true rfl, Nat.le_of_ble_eq_true rfl⟩ rfl hl.1 rfl (Nat.le_of_ble_eq_true rfl) ⟨Nat.zero_le _, Nat.zero_le _⟩ dX4_joinSets_38 (fun H locs hN => ?_)
      refine lv_topi (fun vs5 evs5 => ?_)
      refine lv_if_eq (tgt := 53) hx hb dX4_joinSets_41 (by decide) (fun c_41 => ?_) (fun c_41 => ?_)
      · obtain ⟨vs6, evs6⟩ : ∃ y9 : Int32, y9 = x + 1 := ⟨_, rfl⟩
        refine lv_iinc (v := vs6) (lv' := [(4, .int vs6), (5, .ref (B (kP k))), (0, .ref (B 29)), (1, .int a), (2, .int b), (3, .int q)]) hx hb dX4_joinSets_53 hl (k := 5) rfl (by rw [evs6]; rfl) (by decide) rfl (fun ls hl => ?_)
        refine lv_goto (tgt := 5) hx hb dX4_joinSets_56 (by decide) ?_
        exact ih (k + 1) q vs6 u (by omega) hc (by rw [evs6, hxk]; exact nI_1 k) (hr.trans (by subst_vars; first | rfl | (simp only [cu_join]; done) | (simp only [cu_join]; (repeat' split) <;> first | rfl | contradiction | simp_all))) (hu.trans (by subst_vars; first | rfl | (simp only [cu_join]; done) | (simp only [cu_join]; (repeat' split) <;> first | rfl | contradiction | simp_all))) H locs ls hN (lv_sub hl [2, 3, 4, 5, 0] rfl)
      · refine lv_aload hx hb dX4_joinSets_44 (lv_at hl 0 rfl) ?_
        refine lv_iload_n hx hb dX4_joinSets_46 rfl (lv_at hl 2 rfl) ?_
        refine rr_put C hN (kP k) (kP_lt hNn hkn) hP_ce rfl kw_X4_joinSets_X3 6 (by decide) (List.mem_of_getElem? (i := 4) rfl) rfl (x := a) rfl rfl (Nat.le_of_ble_eq_true rfl) (hP_ce.trans rfl) dX4_joinSets_47 (fun us7 eus7 H locs hN => ?_)
        obtain ⟨vs8, evs8⟩ : ∃ y9 : Int32, y9 = q + 1 := ⟨_, rfl⟩
        refine lv_iinc (v := vs8) (lv' := [(3, .int vs8), (5, .ref (B (kP k))), (0, .ref (B 29)), (1, .int a), (2, .int b), (4, .int x)]) hx hb dX4_joinSets_50 hl (k := 4) rfl (by rw [evs8]; rfl) (by decide) rfl (fun ls hl => ?_)
        obtain ⟨vs9, evs9⟩ : ∃ y9 : Int32, y9 = x + 1 := ⟨_, rfl⟩
        refine lv_iinc (v := vs9) (lv' := [(4, .int vs9), (3, .int vs8), (5, .ref (B (kP k))), (0, .ref (B 29)), (1, .int a), (2, .int b)]) hx hb dX4_joinSets_53 hl (k := 5) rfl (by rw [evs9]; rfl) (by decide) rfl (fun ls hl => ?_)
        refine lv_goto (tgt := 5) hx hb dX4_joinSets_56 (by decide) ?_
        exact ih (k + 1) vs8 vs9 us7 (by omega) (by subst_vars; first | exact hc | (rw [ww_up_ne (by simp only [kC, kP]; omega)]; exact hc) | (rw [ww_up_ne (by simp only [kC, kP]; omega), ww_up_ne (by simp only [kC, kP]; omega)]; exact hc)) (by rw [evs9, hxk]; exact nI_1 k) (hr.trans (by subst_vars; first | rfl | (simp only [cu_join]; done) | (simp only [cu_join]; (repeat' split) <;> first | rfl | contradiction | simp_all))) (hu.trans (by subst_vars; first | rfl | (simp only [cu_join]; done) | (simp only [cu_join]; (repeat' split) <;> first | rfl | contradiction | simp_all))) H locs ls hN (lv_sub hl [3, 4, 5, 1, 0] rfl)
set_option maxHeartbeats 4000000 in
set_option maxRecDepth 100000 in
theorem ct_X4_joinSets (l : Launch) {D : va_G} {ca : Nat → ClassId} {B : Nat → Nat} {N n : Nat} {X : va_W} {u : ww_U} (a b : Int32) (hNn : 36 + 8 * n ≤ N) (hn8 : n ≤ 8) (hc : u 29 1 = nI n) : ww_M l yX4_joinSets wsX4_joinSets ({ frames := 1, cells := 0, slots := 0, locals := 21 } : Room) D ca B N n X u [.ref (B 29), .int a, .int b] (some (.int (cu_join n 0 a b u 0).2)) (cu_join n 0 a b u 0).1 := by
  refine ww_met (cc := cX4_joinSets) (maxL := 6) (ret := (some .int)) (by decide) rfl (Nat.le_of_ble_eq_true rfl) ?_
  intro p e s m args below meth c C hN ls hl
  have hl : lv_has ls 6 [(0, .ref (B 29)), (1, .int a), (2, .int b)] := hl
  have hx := C.1.1
  have hb := C.1.2.1
  have hNB : 36 ≤ N := by omega
  have hNN : 29 ≤ N := by omega
  refine lv_iconst (v := 0) hx hb dX4_joinSets_0 (by decide) ?_
  refine lv_istore_n (lv' := [(3, .int 0), (0, .ref (B 29)), (1, .int a), (2, .int b)]) hx hb dX4_joinSets_1 rfl hl (by decide) rfl (fun ls hl => ?_)
  refine lv_iconst (v := 0) hx hb dX4_joinSets_2 (by decide) ?_
  refine lv_istore (lv' := [(4, .int 0), (3, .int 0), (0, .ref (B 29)), (1, .int a), (2, .int b)]) hx hb dX4_joinSets_3 hl (by decide) rfl (fun ls hl => ?_)
  exact lp_X4_joinSets C hNn a b hn8 n 0 0 0 u (by omega) hc rfl rfl rfl _ _ _ hN (lv_sub hl [2, 3, 4, 1, 0] rfl)
set_option maxRecDepth 20000 in
theorem kw_X4_cut_X4 : ww_K wsX4_cut RX4 TX4 8 tyX4 := ⟨by decide +kernel, tyX4_ok, nmX4⟩
set_option maxRecDepth 20000 in
theorem kw_X4_cut_X1 : ww_K wsX4_cut RX1 TX1 10 tyX1 := ⟨by decide +kernel, tyX1_ok, nmX1⟩
set_option maxHeartbeats 4000000 in
set_option maxRecDepth 100000 in
theorem lp_X4_cut {p : Program} {l : Launch} {e : Env} {s : State} {m : MethodId} {args : Array Value} {below : List Frame} {meth : Method} {c : Code} {D : va_G} {ca : Nat → ClassId} {B : Nat → Nat} {N n : Nat} {X : va_W} (C : ww_C D ca yX4_cut.cls cX4_cut 4 wsX4_cut (some .int) (ww_A B N X s.heap.size) p s m args meth c) (hNn : 36 + 8 * n ≤ N)  (hn8 : n ≤ 8)  {r : Option Value} {u' : ww_U} : ∀ (d k : Nat) (q : Int32) (x : Int32) (u : ww_U), k + d = n → (u 29 1 = nI n) → (x = nI k) → r = some (.int (cu_cut d k u q).2) → u' = (cu_cut d k u q).1 → ∀ (H : Heap) (locs : List Loc) (ls : Array Slot), ww_N D ca B N n u X (ww_A B N X s.heap.size) s.heap H locs → lv_has ls 4 [(0, .ref (B 29)), (1, .int q), (2, .int x)] → W p l e (headSpec wsX4_cut ({ frames := 1, cells := 0, slots := 0, locals := 20 } : Room)).room s m args below meth c H locs 0 0 (MQ below (ww_Q D ca B N n X s.heap.size r u') args s 0 0 (ww_A B N X s.heap.size)) (F0 m 4 ls []) := by
  have hx := C.1.1
  have hb := C.1.2.1
  have hNB : 36 ≤ N := by omega
  have hNN : 29 ≤ N := by omega
  intro d
  induction d with
  | zero =>
    intro k q x u hkd hc hxk hr hu H locs ls hN hl
    refine lv_iload_n hx hb dX4_cut_4 rfl (lv_at hl 2 rfl) ?_
    refine lv_aload_n hx hb dX4_cut_5 rfl (lv_at hl 0 rfl) ?_
    refine rr_get C hN 29 (Nat.lt_of_lt_of_le (by decide) hNB) rfl rfl kw_X4_cut_X4 1 (by decide) (List.mem_of_getElem? (i := 1) rfl) (v := .int (u 29 1)) rfl dX4_cut_6 ?_
    refine lv_icmp_ge (tgt := 47) hx hb dX4_cut_9 (by decide) (fun c_9 => ?_) (fun c_9 => absurd c_9 (fun h => h (by rw [hc, hxk, show k = n by omega]; exact nI_le (Nat.le_refl _) (by omega))))
    refine lv_iload_n hx hb dX4_cut_47 rfl (lv_at hl 1 rfl) ?_
    exact rr_iret C hN dX4_cut_48 hr hu
  | succ d ih =>
    intro k q x u hkd hc hxk hr hu H locs ls hN hl
    have hkn : k < n := by omega
    refine lv_iload_n hx hb dX4_cut_4 rfl (lv_at hl 2 rfl) ?_
    refine lv_aload_n hx hb dX4_cut_5 rfl (lv_at hl 0 rfl) ?_
    refine rr_get C hN 29 (Nat.lt_of_lt_of_le (by decide) hNB) rfl rfl kw_X4_cut_X4 1 (by decide) (List.mem_of_getElem? (i := 1) rfl) (v := .int (u 29 1)) rfl dX4_cut_6 ?_
    refine lv_icmp_ge (tgt := 47) hx hb dX4_cut_9 (by decide) (fun c_9 => absurd c_9 (by rw [hc, hxk]; exact nI_ge (by omega) (by omega))) (fun c_9 => ?_)
    refine lv_aload_n hx hb dX4_cut_12 rfl (lv_at hl 0 rfl) ?_
    refine rr_get C hN 29 (Nat.lt_of_lt_of_le (by decide) hNB) rfl rfl kw_X4_cut_X4 0 (by decide) (List.mem_of_getElem? (i := 2) rfl) (v := .ref (B 30)) rfl dX4_cut_13 ?_
    refine lv_iload_n hx hb dX4_cut_16 rfl (lv_at hl 2 rfl) ?_
    refine rr_ald C hN 30 (Nat.lt_of_lt_of_le (by decide) hNB) 3 rfl rfl (by decide) k (by omega) hxk (v := .ref (B (kC k))) (by simp only [if_pos hkn]; rfl) dX4_cut_17 ?_
    refine lv_astore_n (lv' := [(3, .ref (B (kC k))), (0, .ref (B 29)), (1, .int q), (2, .int x)]) hx hb dX4_cut_18 rfl hl (by decide) rfl (fun ls hl => ?_)
    refine lv_aload_n hx hb dX4_cut_19 rfl (lv_at hl 0 rfl) ?_
    refine rr_get C hN (kC k) (kC_lt hNn hkn) hC_ce rfl kw_X4_cut_X1 5 (by decide) (List.mem_of_getElem? (i := 3) rfl) (v := .int (u (kC k) 5)) rfl dX4_cut_20 ?_
    refine lv_if_ne (tgt := 29) hx hb dX4_cut_23 (by decide) (fun c_23 => ?_) (fun c_23 => ?_)
    · refine lv_aload_n hx hb dX4_cut_29 rfl (lv_at hl 0 rfl) ?_
      refine lv_iconst (v := 1) hx hb dX4_cut_30 (by decide) ?_
      refine rr_put C hN (kC k) (kC_lt hNn hkn) hC_ce rfl kw_X4_cut_X1 5 (by decide) (List.mem_of_getElem? (i := 3) rfl) rfl (x := 1) (by decide) (by decide) (Nat.le_of_ble_eq_true rfl) (hC_ce.trans rfl) dX4_cut_31 (fun us1 eus1 H locs hN => ?_)
      refine lv_aload_n hx hb dX4_cut_34 rfl (lv_at hl 0 rfl) ?_
      refine rr_get C hN (kC k) (kC_lt hNn hkn) hC_ce rfl kw_X4_cut_X1 2 (by decide) (List.mem_of_getElem? (i := 4) rfl) (v := .ref (B (kP k))) rfl dX4_cut_35 ?_
      refine rr_callV0 (As := []) C hN (kP k) (kP_lt hNn hkn) hP_ce rfl rfl (ct_X3_loseBlock l hkn hNn) gX4_cut_X3_loseBlock rfl rfl rfl 0 (by decide +kernel) ⟨Nat.le_of_ble_eq_true rfl, Nat.le_of_ble_eq_true rfl⟩ rfl hl.1 rfl (Nat.le_of_ble_eq_true rfl) ⟨Nat.zero_le _, Nat.zero_le _⟩ dX4_cut_38 (fun H locs hN => ?_)
      obtain ⟨us2, eus2⟩ : ∃ y : ww_U, y = cu_lose us1 k := ⟨_, rfl⟩
      rw [← eus2] at hN
      obtain ⟨vs3, evs3⟩ : ∃ y9 : Int32, y9 = x + 1 := ⟨_, rfl⟩
      refine lv_iinc (v := vs3) (lv' := [(2, .int vs3), (3, .ref (B (kC k))), (0, .ref (B 29)), (1, .int q)]) hx hb dX4_cut_41 hl (k := 3) rfl (by rw [evs3]; rfl) (by decide) rfl (fun ls hl => ?_)
      refine lv_goto (tgt := 4) hx hb dX4_cut_44 (by decide) ?_
      exact ih (k + 1) q vs3 us2 (by omega) (by subst_vars; rw [cu_lose_ne (by simp only [kP]; omega), ww_up_ne (by simp only [kC]; omega)]; exact hc) (by rw [evs3, hxk]; exact nI_1 k) (hr.trans (by subst_vars; first | rfl | (simp only [cu_cut]; done) | (simp only [cu_cut]; (repeat' split) <;> first | rfl | contradiction | simp_all))) (hu.trans (by subst_vars; first | rfl | (simp only [cu_cut]; done) | (simp only [cu_cut]; (repeat' split) <;> first | rfl | contradiction | simp_all))) H locs ls hN (lv_sub hl [2, 3, 0] rfl)
    · obtain ⟨vs4, evs4⟩ : ∃ y9 : Int32, y9 = q + 1 := ⟨_, rfl⟩
      refine lv_iinc (v := vs4) (lv' := [(1, .int vs4), (3, .ref (B (kC k))), (0, .ref (B 29)), (2, .int x)]) hx hb dX4_cut_26 hl (k := 2) rfl (by rw [evs4]; rfl) (by decide) rfl (fun ls hl => ?_)
      refine lv_aload_n hx hb dX4_cut_29 rfl (lv_at hl 1 rfl) ?_
      refine lv_iconst (v := 1) hx hb dX4_cut_30 (by decide) ?_
      refine rr_put C hN (kC k) (kC_lt hNn hkn) hC_ce rfl kw_X4_cut_X1 5 (by decide) (List.mem_of_getElem? (i := 3) rfl) rfl (x := 1) (by decide) (by decide) (Nat.le_of_ble_eq_true rfl) (hC_ce.trans rfl) dX4_cut_31 (fun us5 eus5 H locs hN => ?_)
      refine lv_aload_n hx hb dX4_cut_34 rfl (lv_at hl 1 rfl) ?_
      refine rr_get C hN (kC k) (kC_lt hNn hkn) hC_ce rfl kw_X4_cut_X1 2 (by decide) (List.mem_of_getElem? (i := 4) rfl) (v := .ref (B (kP k))) rfl dX4_cut_35 ?_
      refine rr_callV0 (As := []) C hN (kP k) (kP_lt hNn hkn) hP_ce rfl rfl (ct_X3_loseBlock l hkn hNn) gX4_cut_X3_loseBlock rfl rfl rfl 0 (by decide +kernel) ⟨Nat.le_of_ble_eq_true rfl, Nat.le_of_ble_eq_true rfl⟩ rfl hl.1 rfl (Nat.le_of_ble_eq_true rfl) ⟨Nat.zero_le _, Nat.zero_le _⟩ dX4_cut_38 (fun H locs hN => ?_)
      obtain ⟨us6, eus6⟩ : ∃ y : ww_U, y = cu_lose us5 k := ⟨_, rfl⟩
      rw [← eus6] at hN
      obtain ⟨vs7, evs7⟩ : ∃ y9 : Int32, y9 = x + 1 := ⟨_, rfl⟩
      refine lv_iinc (v := vs7) (lv' := [(2, .int vs7), (1, .int vs4), (3, .ref (B (kC k))), (0, .ref (B 29))]) hx hb dX4_cut_41 hl (k := 3) rfl (by rw [evs7]; rfl) (by decide) rfl (fun ls hl => ?_)
      refine lv_goto (tgt := 4) hx hb dX4_cut_44 (by decide) ?_
      exact ih (k + 1) vs4 vs7 us6 (by omega) (by subst_vars; rw [cu_lose_ne (by simp only [kP]; omega), ww_up_ne (by simp only [kC]; omega)]; exact hc) (by rw [evs7, hxk]; exact nI_1 k) (hr.trans (by subst_vars; first | rfl | (simp only [cu_cut]; done) | (simp only [cu_cut]; (repeat' split) <;> first | rfl | contradiction | simp_all))) (hu.trans (by subst_vars; first | rfl | (simp only [cu_cut]; done) | (simp only [cu_cut]; (repeat' split) <;> first | rfl | contradiction | simp_all))) H locs ls hN (lv_sub hl [3, 1, 0] rfl)
set_option maxHeartbeats 4000000 in
set_option maxRecDepth 100000 in
theorem ct_X4_cut (l : Launch) {D : va_G} {ca : Nat → ClassId} {B : Nat → Nat} {N n : Nat} {X : va_W} {u : ww_U}  (hNn : 36 + 8 * n ≤ N) (hn8 : n ≤ 8) (hc : u 29 1 = nI n) : ww_M l yX4_cut wsX4_cut ({ frames := 1, cells := 0, slots := 0, locals := 20 } : Room) D ca B N n X u [.ref (B 29)] (some (.int (cu_cut n 0 u 0).2)) (cu_cut n 0 u 0).1 := by
  refine ww_met (cc := cX4_cut) (maxL := 4) (ret := (some .int)) (by decide) rfl (Nat.le_of_ble_eq_true rfl) ?_
  intro p e s m args below meth c C hN ls hl
  have hl : lv_has ls 4 [(0, .ref (B 29))] := hl
  have hx := C.1.1
  have hb := C.1.2.1
  have hNB : 36 ≤ N := by omega
  have hNN : 29 ≤ N := by omega
  refine lv_iconst (v := 0) hx hb dX4_cut_0 (by decide) ?_
  refine lv_istore_n (lv' := [(1, .int 0), (0, .ref (B 29))]) hx hb dX4_cut_1 rfl hl (by decide) rfl (fun ls hl => ?_)
  refine lv_iconst (v := 0) hx hb dX4_cut_2 (by decide) ?_
  refine lv_istore_n (lv' := [(2, .int 0), (1, .int 0), (0, .ref (B 29))]) hx hb dX4_cut_3 rfl hl (by decide) rfl (fun ls hl => ?_)
  exact lp_X4_cut C hNn  hn8 n 0 0 0 u (by omega) hc rfl rfl rfl _ _ _ hN (lv_sub hl [2, 1, 0] rfl)
