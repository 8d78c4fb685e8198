section
-- ===== PART A: goes FIRST, ahead of the names: the tables' words, and 'selects' of the private methods out of them =====
/-- a private method of a class that the tables say can be made, by its rows of tables_1 -/
def lw_okq (q : MethodName × Nat) : Prop := (q.1.cls ≠ "java/lang/invoke/MethodHandle" ∧ q.1.cls ≠ "java/lang/invoke/VarHandle") ∧ Cond.instantiable q.1.cls q.2 ∈ tables_1 ∧ Cond.privateMethod q.1 ∈ tables_1 ∧ Cond.instanceMethod q.1 ∈ tables_1
theorem lw_p0 : lw_okq (⟨"UpdatePacks", "find", "(I)LUpdatePacks$Controller;"⟩, 8) := ⟨⟨by decide +kernel, by decide +kernel⟩, List.mem_of_getElem? (i := 15) (by decide +kernel), List.mem_of_getElem? (i := 187) (by decide +kernel), List.mem_of_getElem? (i := 188) (by decide +kernel)⟩
theorem lw_p1 : lw_okq (⟨"UpdatePacks", "refusalOf", "(LUpdatePacks$Controller;IZ)I"⟩, 8) := ⟨⟨by decide +kernel, by decide +kernel⟩, List.mem_of_getElem? (i := 15) (by decide +kernel), List.mem_of_getElem? (i := 191) (by decide +kernel), List.mem_of_getElem? (i := 192) (by decide +kernel)⟩
theorem lw_p2 : lw_okq (⟨"UpdatePacks$Digester", "layOut", "([BI)I"⟩, 3) := ⟨⟨by decide +kernel, by decide +kernel⟩, List.mem_of_getElem? (i := 25) (by decide +kernel), List.mem_of_getElem? (i := 203) (by decide +kernel), List.mem_of_getElem? (i := 204) (by decide +kernel)⟩
theorem lw_p3 : lw_okq (⟨"UpdatePacks$Digester", "fillSchedule", "(I)V"⟩, 3) := ⟨⟨by decide +kernel, by decide +kernel⟩, List.mem_of_getElem? (i := 25) (by decide +kernel), List.mem_of_getElem? (i := 210) (by decide +kernel), List.mem_of_getElem? (i := 211) (by decide +kernel)⟩
theorem lw_p4 : lw_okq (⟨"UpdatePacks$Digester", "wordAt", "(I)I"⟩, 3) := ⟨⟨by decide +kernel, by decide +kernel⟩, List.mem_of_getElem? (i := 25) (by decide +kernel), List.mem_of_getElem? (i := 214) (by decide +kernel), List.mem_of_getElem? (i := 215) (by decide +kernel)⟩
theorem lw_p5 : lw_okq (⟨"UpdatePacks$Digester", "mix", "()V"⟩, 3) := ⟨⟨by decide +kernel, by decide +kernel⟩, List.mem_of_getElem? (i := 25) (by decide +kernel), List.mem_of_getElem? (i := 224) (by decide +kernel), List.mem_of_getElem? (i := 225) (by decide +kernel)⟩
theorem lw_p6 : lw_okq (⟨"UpdatePacks", "isPackage", "(I)Z"⟩, 8) := ⟨⟨by decide +kernel, by decide +kernel⟩, List.mem_of_getElem? (i := 15) (by decide +kernel), List.mem_of_getElem? (i := 237) (by decide +kernel), List.mem_of_getElem? (i := 238) (by decide +kernel)⟩
theorem lw_p7 : lw_okq (⟨"UpdatePacks", "findOpen", "(I)LUpdatePacks$Pack;"⟩, 8) := ⟨⟨by decide +kernel, by decide +kernel⟩, List.mem_of_getElem? (i := 15) (by decide +kernel), List.mem_of_getElem? (i := 241) (by decide +kernel), List.mem_of_getElem? (i := 242) (by decide +kernel)⟩
theorem lw_p8 : lw_okq (⟨"UpdatePacks", "joinSets", "(II)I"⟩, 8) := ⟨⟨by decide +kernel, by decide +kernel⟩, List.mem_of_getElem? (i := 15) (by decide +kernel), List.mem_of_getElem? (i := 245) (by decide +kernel), List.mem_of_getElem? (i := 246) (by decide +kernel)⟩
theorem lw_p9 : lw_okq (⟨"UpdatePacks", "bothHold", "()Z"⟩, 8) := ⟨⟨by decide +kernel, by decide +kernel⟩, List.mem_of_getElem? (i := 15) (by decide +kernel), List.mem_of_getElem? (i := 261) (by decide +kernel), List.mem_of_getElem? (i := 262) (by decide +kernel)⟩
theorem lw_p10 : lw_okq (⟨"UpdatePacks", "stepOfReady", "(LUpdatePacks$Controller;)I"⟩, 8) := ⟨⟨by decide +kernel, by decide +kernel⟩, List.mem_of_getElem? (i := 15) (by decide +kernel), List.mem_of_getElem? (i := 273) (by decide +kernel), List.mem_of_getElem? (i := 274) (by decide +kernel)⟩
theorem lw_p11 : lw_okq (⟨"UpdatePacks", "switchBanks", "(LUpdatePacks$Controller;)V"⟩, 8) := ⟨⟨by decide +kernel, by decide +kernel⟩, List.mem_of_getElem? (i := 15) (by decide +kernel), List.mem_of_getElem? (i := 277) (by decide +kernel), List.mem_of_getElem? (i := 278) (by decide +kernel)⟩
theorem lw_p12 : lw_okq (⟨"UpdatePacks", "allSwitched", "(I)Z"⟩, 8) := ⟨⟨by decide +kernel, by decide +kernel⟩, List.mem_of_getElem? (i := 15) (by decide +kernel), List.mem_of_getElem? (i := 285) (by decide +kernel), List.mem_of_getElem? (i := 286) (by decide +kernel)⟩
theorem lw_p13 : lw_okq (⟨"UpdatePacks", "makeLastSet", "(I)V"⟩, 8) := ⟨⟨by decide +kernel, by decide +kernel⟩, List.mem_of_getElem? (i := 15) (by decide +kernel), List.mem_of_getElem? (i := 289) (by decide +kernel), List.mem_of_getElem? (i := 290) (by decide +kernel)⟩
theorem lw_p14 : lw_okq (⟨"UpdatePacks", "allCanCommit", "(I)Z"⟩, 8) := ⟨⟨by decide +kernel, by decide +kernel⟩, List.mem_of_getElem? (i := 15) (by decide +kernel), List.mem_of_getElem? (i := 293) (by decide +kernel), List.mem_of_getElem? (i := 294) (by decide +kernel)⟩
theorem lw_p15 : lw_okq (⟨"UpdatePacks", "commit", "(I)V"⟩, 8) := ⟨⟨by decide +kernel, by decide +kernel⟩, List.mem_of_getElem? (i := 15) (by decide +kernel), List.mem_of_getElem? (i := 297) (by decide +kernel), List.mem_of_getElem? (i := 298) (by decide +kernel)⟩
def lw_privs_1 : List (MethodName × Nat) := [(⟨"UpdatePacks", "find", "(I)LUpdatePacks$Controller;"⟩, 8), (⟨"UpdatePacks", "refusalOf", "(LUpdatePacks$Controller;IZ)I"⟩, 8), (⟨"UpdatePacks$Digester", "layOut", "([BI)I"⟩, 3), (⟨"UpdatePacks$Digester", "fillSchedule", "(I)V"⟩, 3), (⟨"UpdatePacks$Digester", "wordAt", "(I)I"⟩, 3), (⟨"UpdatePacks$Digester", "mix", "()V"⟩, 3), (⟨"UpdatePacks", "isPackage", "(I)Z"⟩, 8), (⟨"UpdatePacks", "findOpen", "(I)LUpdatePacks$Pack;"⟩, 8), (⟨"UpdatePacks", "joinSets", "(II)I"⟩, 8), (⟨"UpdatePacks", "bothHold", "()Z"⟩, 8), (⟨"UpdatePacks", "stepOfReady", "(LUpdatePacks$Controller;)I"⟩, 8), (⟨"UpdatePacks", "switchBanks", "(LUpdatePacks$Controller;)V"⟩, 8), (⟨"UpdatePacks", "allSwitched", "(I)Z"⟩, 8), (⟨"UpdatePacks", "makeLastSet", "(I)V"⟩, 8), (⟨"UpdatePacks", "allCanCommit", "(I)Z"⟩, 8), (⟨"UpdatePacks", "commit", "(I)V"⟩, 8)]
theorem lw_r1 : ∀ q ∈ lw_privs_1, lw_okq q := List.forall_mem_cons.mpr ⟨lw_p0, List.forall_mem_cons.mpr ⟨lw_p1, List.forall_mem_cons.mpr ⟨lw_p2, List.forall_mem_cons.mpr ⟨lw_p3, List.forall_mem_cons.mpr ⟨lw_p4, List.forall_mem_cons.mpr ⟨lw_p5, List.forall_mem_cons.mpr ⟨lw_p6, List.forall_mem_cons.mpr ⟨lw_p7, List.forall_mem_cons.mpr ⟨lw_p8, List.forall_mem_cons.mpr ⟨lw_p9, List.forall_mem_cons.mpr ⟨lw_p10, List.forall_mem_cons.mpr ⟨lw_p11, List.forall_mem_cons.mpr ⟨lw_p12, List.forall_mem_cons.mpr ⟨lw_p13, List.forall_mem_cons.mpr ⟨lw_p14, List.forall_mem_cons.mpr ⟨lw_p15, fun _ h => absurd h List.not_mem_nil⟩⟩⟩⟩⟩⟩⟩⟩⟩⟩⟩⟩⟩⟩⟩⟩
theorem lw_p16 : lw_okq (⟨"UpdatePacks$Controller", "completeBank", "(LUpdatePacks$Bank;)V"⟩, 10) := ⟨⟨by decide +kernel, by decide +kernel⟩, List.mem_of_getElem? (i := 71) (by decide +kernel), List.mem_of_getElem? (i := 308) (by decide +kernel), List.mem_of_getElem? (i := 309) (by decide +kernel)⟩
theorem lw_p17 : lw_okq (⟨"UpdatePacks", "hasLastSet", "()Z"⟩, 8) := ⟨⟨by decide +kernel, by decide +kernel⟩, List.mem_of_getElem? (i := 15) (by decide +kernel), List.mem_of_getElem? (i := 332) (by decide +kernel), List.mem_of_getElem? (i := 333) (by decide +kernel)⟩
theorem lw_p18 : lw_okq (⟨"UpdatePacks", "lastSetMayGoBack", "()Z"⟩, 8) := ⟨⟨by decide +kernel, by decide +kernel⟩, List.mem_of_getElem? (i := 15) (by decide +kernel), List.mem_of_getElem? (i := 344) (by decide +kernel), List.mem_of_getElem? (i := 345) (by decide +kernel)⟩
theorem lw_p19 : lw_okq (⟨"java/lang/Throwable", "fillInStackTrace", "(I)Ljava/lang/Throwable;"⟩, 6) := ⟨⟨by decide +kernel, by decide +kernel⟩, List.mem_of_getElem? (i := 387) (by decide +kernel), List.mem_of_getElem? (i := 385) (by decide +kernel), List.mem_of_getElem? (i := 386) (by decide +kernel)⟩
theorem lw_p20 : lw_okq (⟨"UpdatePacksModel", "root", "(II)J"⟩, 36) := ⟨⟨by decide +kernel, by decide +kernel⟩, List.mem_of_getElem? (i := 452) (by decide +kernel), List.mem_of_getElem? (i := 458) (by decide +kernel), List.mem_of_getElem? (i := 459) (by decide +kernel)⟩
theorem lw_p21 : lw_okq (⟨"UpdatePacksModel", "raise", "(JI)V"⟩, 36) := ⟨⟨by decide +kernel, by decide +kernel⟩, List.mem_of_getElem? (i := 452) (by decide +kernel), List.mem_of_getElem? (i := 462) (by decide +kernel), List.mem_of_getElem? (i := 463) (by decide +kernel)⟩
theorem lw_p22 : lw_okq (⟨"UpdatePacksModel", "none", "(I)Z"⟩, 36) := ⟨⟨by decide +kernel, by decide +kernel⟩, List.mem_of_getElem? (i := 452) (by decide +kernel), List.mem_of_getElem? (i := 593) (by decide +kernel), List.mem_of_getElem? (i := 594) (by decide +kernel)⟩
theorem lw_p23 : lw_okq (⟨"UpdatePacksModel", "stateOf", "(I)I"⟩, 36) := ⟨⟨by decide +kernel, by decide +kernel⟩, List.mem_of_getElem? (i := 452) (by decide +kernel), List.mem_of_getElem? (i := 597) (by decide +kernel), List.mem_of_getElem? (i := 598) (by decide +kernel)⟩
theorem lw_p24 : lw_okq (⟨"UpdatePacksModel", "findDigest", "(I)V"⟩, 36) := ⟨⟨by decide +kernel, by decide +kernel⟩, List.mem_of_getElem? (i := 452) (by decide +kernel), List.mem_of_getElem? (i := 601) (by decide +kernel), List.mem_of_getElem? (i := 602) (by decide +kernel)⟩
theorem lw_p25 : lw_okq (⟨"UpdatePacksModel", "padded", "(III)I"⟩, 36) := ⟨⟨by decide +kernel, by decide +kernel⟩, List.mem_of_getElem? (i := 452) (by decide +kernel), List.mem_of_getElem? (i := 605) (by decide +kernel), List.mem_of_getElem? (i := 606) (by decide +kernel)⟩
theorem lw_p26 : lw_okq (⟨"UpdatePacksModel", "at", "(II)I"⟩, 36) := ⟨⟨by decide +kernel, by decide +kernel⟩, List.mem_of_getElem? (i := 452) (by decide +kernel), List.mem_of_getElem? (i := 612) (by decide +kernel), List.mem_of_getElem? (i := 613) (by decide +kernel)⟩
theorem lw_p27 : lw_okq (⟨"UpdatePacksModel", "isOpen", "(I)Z"⟩, 36) := ⟨⟨by decide +kernel, by decide +kernel⟩, List.mem_of_getElem? (i := 452) (by decide +kernel), List.mem_of_getElem? (i := 624) (by decide +kernel), List.mem_of_getElem? (i := 625) (by decide +kernel)⟩
theorem lw_p28 : lw_okq (⟨"UpdatePacksModel", "hold", "()Z"⟩, 36) := ⟨⟨by decide +kernel, by decide +kernel⟩, List.mem_of_getElem? (i := 452) (by decide +kernel), List.mem_of_getElem? (i := 636) (by decide +kernel), List.mem_of_getElem? (i := 637) (by decide +kernel)⟩
theorem lw_p29 : lw_okq (⟨"UpdatePacksModel", "there", "(I)Z"⟩, 36) := ⟨⟨by decide +kernel, by decide +kernel⟩, List.mem_of_getElem? (i := 452) (by decide +kernel), List.mem_of_getElem? (i := 644) (by decide +kernel), List.mem_of_getElem? (i := 645) (by decide +kernel)⟩
theorem lw_p30 : lw_okq (⟨"UpdatePacksModel", "write", "(I)V"⟩, 36) := ⟨⟨by decide +kernel, by decide +kernel⟩, List.mem_of_getElem? (i := 452) (by decide +kernel), List.mem_of_getElem? (i := 648) (by decide +kernel), List.mem_of_getElem? (i := 649) (by decide +kernel)⟩
theorem lw_p31 : lw_okq (⟨"UpdatePacksModel", "change", "(I)V"⟩, 36) := ⟨⟨by decide +kernel, by decide +kernel⟩, List.mem_of_getElem? (i := 452) (by decide +kernel), List.mem_of_getElem? (i := 652) (by decide +kernel), List.mem_of_getElem? (i := 653) (by decide +kernel)⟩
def lw_privs_2 : List (MethodName × Nat) := [(⟨"UpdatePacks$Controller", "completeBank", "(LUpdatePacks$Bank;)V"⟩, 10), (⟨"UpdatePacks", "hasLastSet", "()Z"⟩, 8), (⟨"UpdatePacks", "lastSetMayGoBack", "()Z"⟩, 8), (⟨"java/lang/Throwable", "fillInStackTrace", "(I)Ljava/lang/Throwable;"⟩, 6), (⟨"UpdatePacksModel", "root", "(II)J"⟩, 36), (⟨"UpdatePacksModel", "raise", "(JI)V"⟩, 36), (⟨"UpdatePacksModel", "none", "(I)Z"⟩, 36), (⟨"UpdatePacksModel", "stateOf", "(I)I"⟩, 36), (⟨"UpdatePacksModel", "findDigest", "(I)V"⟩, 36), (⟨"UpdatePacksModel", "padded", "(III)I"⟩, 36), (⟨"UpdatePacksModel", "at", "(II)I"⟩, 36), (⟨"UpdatePacksModel", "isOpen", "(I)Z"⟩, 36), (⟨"UpdatePacksModel", "hold", "()Z"⟩, 36), (⟨"UpdatePacksModel", "there", "(I)Z"⟩, 36), (⟨"UpdatePacksModel", "write", "(I)V"⟩, 36), (⟨"UpdatePacksModel", "change", "(I)V"⟩, 36)]
theorem lw_r2 : ∀ q ∈ lw_privs_2, lw_okq q := List.forall_mem_cons.mpr ⟨lw_p16, List.forall_mem_cons.mpr ⟨lw_p17, List.forall_mem_cons.mpr ⟨lw_p18, List.forall_mem_cons.mpr ⟨lw_p19, List.forall_mem_cons.mpr ⟨lw_p20, List.forall_mem_cons.mpr ⟨lw_p21, List.forall_mem_cons.mpr ⟨lw_p22, List.forall_mem_cons.mpr ⟨lw_p23, List.forall_mem_cons.mpr ⟨lw_p24, List.forall_mem_cons.mpr ⟨lw_p25, List.forall_mem_cons.mpr ⟨lw_p26, List.forall_mem_cons.mpr ⟨lw_p27, List.forall_mem_cons.mpr ⟨lw_p28, List.forall_mem_cons.mpr ⟨lw_p29, List.forall_mem_cons.mpr ⟨lw_p30, List.forall_mem_cons.mpr ⟨lw_p31, fun _ h => absurd h List.not_mem_nil⟩⟩⟩⟩⟩⟩⟩⟩⟩⟩⟩⟩⟩⟩⟩⟩
theorem lw_p32 : lw_okq (⟨"UpdatePacksModel", "allIn", "(II)Z"⟩, 36) := ⟨⟨by decide +kernel, by decide +kernel⟩, List.mem_of_getElem? (i := 452) (by decide +kernel), List.mem_of_getElem? (i := 656) (by decide +kernel), List.mem_of_getElem? (i := 657) (by decide +kernel)⟩
def lw_privs_3 : List (MethodName × Nat) := [(⟨"UpdatePacksModel", "allIn", "(II)Z"⟩, 36)]
theorem lw_r3 : ∀ q ∈ lw_privs_3, lw_okq q := List.forall_mem_cons.mpr ⟨lw_p32, fun _ h => absurd h List.not_mem_nil⟩
def lw_privs : List (MethodName × Nat) := lw_privs_1 ++ (lw_privs_2 ++ (lw_privs_3))
def lw_tbl : List Cond := k2_sels lw_privs ++ tables_1
theorem lw_privs_ok : ∀ q ∈ lw_privs, lw_okq q := by
  show ∀ q ∈ lw_privs_1 ++ (lw_privs_2 ++ (lw_privs_3)), lw_okq q
  exact List.forall_mem_append.mpr ⟨lw_r1, List.forall_mem_append.mpr ⟨lw_r2, lw_r3⟩⟩
-- ===== end of PART A; then your names; then what follows =====
end
section
/-! ===== BEGIN words of one list among another's, by their places ===== -/
theorem goodIn_r {big : List Cond} (ws : List Cond) (ps : List Nat) (hp : ws = ps.filterMap (fun i => big[i]?)) (h : ws.all goodWord = true) : GoodIn big ws := by
  intro w hw
  have h1 := List.all_eq_true.mp h w hw
  rw [hp] at hw
  obtain ⟨i, -, hi⟩ := List.mem_filterMap.mp hw
  have hm : w ∈ big := by first | exact List.mem_of_getElem? hi | exact List.getElem?_mem hi
  exact ⟨hm, good_of_word h1⟩
theorem goodIn_app {big a b : List Cond} (ha : GoodIn big a) (hb : GoodIn big b) : GoodIn big (a ++ b) := fun w h => (List.mem_append.mp h).elim (ha w) (hb w)
theorem goodIn_ca {big a b : List Cond} {c : Cond} (ha : GoodIn big (c :: a)) (hb : GoodIn big b) : GoodIn big (c :: (a ++ b)) := fun w h => (List.mem_cons.mp h).elim (fun e => ha w (List.mem_cons.mpr (Or.inl e))) (fun h => (List.mem_append.mp h).elim (fun h => ha w (List.mem_cons.mpr (Or.inr h))) (hb w))
theorem goodIn_sub {big ws : List Cond} (hm : ∀ w ∈ ws, w ∈ big) (h : ws.all goodWord = true) : GoodIn big ws := fun w hw => ⟨hm w hw, good_of_word (List.all_eq_true.mp h w hw)⟩
/-! ===== END ===== -/

/-! ===== BEGIN exceptions that leave a method, and their catching by the caller (launches without stack traces) ===== -/
section VXA
/-! The laws vx_back, vx_callV, vx_callS, vx_callSW, vx_throw0, vx_throwS follow proofs of the library, with one case more: JvmDerived/Free/Laws.lean (Back.of_free), Shelf42/LK1.lean (callV, callS), Shelf/KitTraced.lean (throwNew0V, throwNewS). -/
/-- where a method has thrown q: the class by its name, the cell, what was written, the world -/
def vx_T (XC : String → State → State → Prop) (st : State) (q : Addr) (t : State) (mc ms : Nat) (free : Addr → Prop) : Prop :=
  ∃ (E : String) (ce : Cell) (L : List Loc), XC E st t ∧ t.heap[q]? = some ce ∧ ce.vm = .none ∧ st.vm.findClass E = some ce.cls ∧ st.WarmedH t.vm ∧ st.sameButNew ({ t with vm := st.vm } : State) L mc ms ∧ ∀ z ∈ L, free z.base
def vx_Q (Qc : Array Value → State → Outcome → State → Prop) (XC : String → State → State → Prop) (mc ms : Nat) (free : Addr → Prop) : Array Value → State → Outcome → State → Prop := fun a st o t =>
  (Qc a st o t ∧ ∃ L, FrameEnd st o t L mc ms ∧ ∀ q ∈ L, free q.base) ∨ ∃ q, o = .threw q ∧ vx_T XC st q t mc ms free
/-- a callee that returns or throws -/
def vx_Met (l : Launch) (y : MethodName) (ws : List Cond) (rm : Room) (Pc : Array Value → State → Prop) (Qc : Array Value → State → Outcome → State → Prop) (XC : String → State → State → Prop) (mc ms : Nat) (free : Addr → Prop) : Prop :=
  MetFree l y (headSpec ws rm) Pc (fun _ _ _ _ _ => True) (vx_Q Qc XC mc ms free)
def vx_Post (XC : String → State → State → Prop) (mc ms : Nat) (free : Addr → Prop) : Pt → Array Value → Addr → Pt → Prop := fun A a q B =>
  ∃ (g : JFrame) (mk : MethodId) (t : State) (L : List Loc) (E : String) (ce : Cell), B.U.heap = t.heap ∧ B.U.vm = t.vm ∧ XC E (A.U.calling g mk a) t ∧ t.heap[q]? = some ce ∧ ce.vm = .none ∧ A.U.vm.findClass E = some ce.cls ∧ B.locs = A.locs ++ L ∧ (∀ z ∈ L, free z.base) ∧ B.cells = A.cells + mc ∧ B.slots = A.slots + ms
def vx_Back (l : Launch) (R : Room) (p : Program) (e : Env) (below : List Frame) (s : State) (sargs : Array Value) (y : MethodName) (len W9 : Nat)
    (Pre : Pt → Array Value → Prop) (Post : Pt → Array Value → Option Value → Pt → Prop) (PostX : Pt → Array Value → Addr → Pt → Prop) : Prop :=
  ∀ (m : MethodId) (meth : Method) (c : Code) (A : Pt) (g : JFrame) (ig : Instr) (mk : MethodId) (a : Array Value),
    Stand p l e R s m sargs below meth c A.U A.locs A.cells A.slots → g.method = m → g.locals.size = c.maxLocals → decode c.code g.pc = .ok (ig, len) →
    2 * g.monitorRoom + (g.stack.map fun v => v.category).sum ≤ W9 → A.U.methodNamed? y = some mk → Pre A a →
    (∃ (v : Option Value) (B : Pt), Stand p l e R s m sargs below meth c B.U B.locs B.cells B.slots ∧ Post A a v B ∧
      Steps p.tables e below (doInvoke e (A.U.setTop g) [] mk a).1 (B.U.setTop { g with pc := g.pc + len, stack := v.toList ++ g.stack })) ∨
    (∃ (q : Addr) (B : Pt), Stand p l e R s m sargs below meth c B.U B.locs B.cells B.slots ∧ PostX A a q B ∧
      Steps p.tables e below (doInvoke e (A.U.setTop g) [] mk a).1 ((B.U.setTop g).pushFrame (.throwing q)))
section Payer
variable {l : Launch} {R : Room} {p : Program} {e : Env} {below : List Frame} {s : State} {sargs : Array Value} {y : MethodName} {len W9 : Nat}
theorem vx_back {ws : List Cond} {rm : Room} {Pc : Array Value → State → Prop} {Qc : Array Value → State → Outcome → State → Prop} {XC : String → State → State → Prop} {mc ms : Nat} {free : Addr → Prop} {bytes : ByteArray} {maxL : Nat} {ret : Option FieldType}
    (hM : vx_Met l y ws rm Pc Qc XC mc ms free) (hblind : FrameBlind Pc) (hrc : rm.cells = mc) (hrs : rm.slots = ms)
    (hframes : rm.frames + 1 ≤ R.frames) (hlocals : W9 + (maxL + 11) + rm.locals ≤ R.locals)
    (hws : ∀ w ∈ ws, ∀ a' U, s.WarmedH U.vm → w.before a' U = true) (hcode : Cond.code y bytes maxL ret ∈ ws) (hinit : ∀ a' U, s.WarmedH U.vm → (Cond.initialized y.cls).before a' U = true) :
    vx_Back l R p e below s sargs y len W9 (PreOf R mc ms Pc) (PostOf Qc mc ms free) (vx_Post XC mc ms free) := by
  intro m meth c A g ig mk a X hg hsize hdg hW hn hp
  have h1 : (headSpec ws rm).pre.before a A.U = true := atoms_intro fun w hw => hws w hw _ _ X.warmed
  have h2 : (Cond.code y bytes maxL ret).before a A.U = true := hws _ hcode _ _ X.warmed
  have h3 : (Cond.initialized y.cls).before a A.U = true := hinit _ _ X.warmed
  have h4 : A.cells + (headSpec ws rm).room.cells ≤ R.cells := by rw [show (headSpec ws rm).room.cells = mc from hrc]; exact hp.1
  have h5 : A.slots + (headSpec ws rm).room.slots ≤ R.slots := by rw [show (headSpec ws rm).room.slots = ms from hrs]; exact hp.2.1
  have hPc : Pc a (A.U.calling g mk a) := hblind _ _ _ _ hp.2.2
  obtain ⟨U, Ls, c0, s0⟩ := A
  dsimp only [Pt.U, Pt.locs, Pt.cells, Pt.slots] at h1 h2 h3 h4 h5 X hn hPc ⊢
  obtain ⟨methY, cY, hmY, hcY, -, hlY, -, -, -, -⟩ := Cond.code_spec hn h2
  obtain ⟨kY, hkY, -⟩ := className_of_methodNamed hn
  have hinitY : kY.init = .initialized := Cond.initialized_spec (findClass_of_methodNamed hn) hkY h3
  have h : At U g.method c below := by rw [hg]; exact X.here
  have hlocals9 : W9 + (maxL + 11) + (headSpec ws rm).room.locals ≤ R.locals := hlocals
  have happ : (headSpec ws rm).appliesLoose y e.platform (U.calling g mk a) = true :=
    Spec.appliesLoose_calling (g := g) h hdg hn hkY hinitY
      (X.room_calling (g := g) (R' := (headSpec ws rm).room) hsize hmY hcY hframes (by rw [hlY]; omega) h4 h5) h1
  obtain ⟨mid, hmid⟩ := h.above
  have hfr : (U.setTop g).frames = (.java g :: mid) ++ below := by rw [State.frames_setTop' g h.top, hmid]; rfl
  obtain ⟨o, s₂, hsteps, -, hend, hq⟩ := Steps.callFree hM p X.admits X.cas X.clock (acts := []) hfr happ hPc trivial
  have hq' : vx_Q Qc XC mc ms free a (U.calling g mk a) o s₂ := hq
  rw [State.frames_setTop' g h.top] at hend
  obtain ⟨g₀, hg0⟩ := Option.isSome_iff_exists.mp h.top
  obtain ⟨r, hr⟩ := State.topJava?_eq_some.mp hg0
  have hr' : (({ U with heap := s₂.heap, slotsUsed := s₂.slotsUsed } : State).setVm s₂.vm).frames = .java g₀ :: r := hr
  rcases hq' with ⟨hqc, L, hfe, hL⟩ | ⟨q, rfl, E, ce, L, hx, hce, hcv, hcl, hW₂, hsm, hL⟩
  · obtain ⟨⟨v, rfl⟩, hW₂, e2, q2, q3, q4, q5, q6⟩ := id hfe
    have e3 : s₂ = ({ (U.calling g mk a).setFrames s₂.frames with heap := s₂.heap, slotsUsed := s₂.slotsUsed } : State).setVm s₂.vm := by
      have : s₂ = ({ s₂ with vm := (U.calling g mk a).vm } : State).setVm s₂.vm := rfl
      rw [e2] at this
      exact this
    obtain ⟨c₂, i₂, len₂, hc₂, hd₂, hf₂⟩ := hend
    have hW' : U.WarmedH s₂.vm := hW₂
    have hcc : c₂ = c := by
      have h1 : s₂.code? g.method = U.code? g.method := by
        rw [State.code?_eq, State.code?_eq, hW'.alike.method?]
      exact Option.some.inj (hc₂.symm.trans (h1.trans h.code))
    subst hcc
    have hlen : len₂ = len := by rw [hdg] at hd₂; cases hd₂; rfl
    subst hlen
    have hs₂ : s₂ = (({ U with heap := s₂.heap, slotsUsed := s₂.slotsUsed } : State).setVm s₂.vm).setTop { g with pc := g.pc + len₂, stack := v.toList ++ g.stack } := by
      refine e3.trans ?_
      rw [hf₂, State.calling_eq h.top, State.setFrames_setFrames, State.setTop_of_frames _ hr', hr]
      rfl
    have hsame : U.sameButNew ({ U with heap := s₂.heap, slotsUsed := s₂.slotsUsed } : State) L mc ms := by
      refine ⟨?_, q2, q3, q4, q5, q6⟩
      obtain ⟨t, ht, -⟩ := State.frames_cons hr
      show ({ U with heap := s₂.heap, slotsUsed := s₂.slotsUsed } : State) = { U.setFrames U.frames with heap := s₂.heap, slotsUsed := s₂.slotsUsed }
      rw [State.setFrames_self ht]
    subst hg
    refine Or.inl ⟨v, ⟨(({ U with heap := s₂.heap, slotsUsed := s₂.slotsUsed } : State).setVm s₂.vm), Ls ++ L, c0 + mc, s0 + ms⟩,
      ⟨X.admits, X.cas, X.clock, X.frames, X.room, X.hears, X.method, X.code, (X.here.setHeapUsed s₂.heap s₂.slotsUsed).setVm hW'.alike, X.tail, State.WarmedH.trans X.warmed hW', X.limits, X.bytes, X.same.trans (hsame.setVm s.vm)⟩,
      ⟨g, mk, s₂, L, rfl, rfl, hqc, rfl, hL, rfl, rfl⟩, ?_⟩
    show Steps p.tables e below _ ((({ U with heap := s₂.heap, slotsUsed := s₂.slotsUsed } : State).setVm s₂.vm).setTop { g with pc := g.pc + len₂, stack := v.toList ++ g.stack })
    rw [← hs₂]
    exact hsteps
  · obtain ⟨e2, q2, q3, q4, q5, q6⟩ := id hsm
    have e3 : s₂ = ({ (U.calling g mk a).setFrames s₂.frames with heap := s₂.heap, slotsUsed := s₂.slotsUsed } : State).setVm s₂.vm := by
      have : s₂ = ({ s₂ with vm := (U.calling g mk a).vm } : State).setVm s₂.vm := rfl
      rw [e2] at this
      exact this
    have hf₂ : s₂.frames = .throwing q :: .java g :: U.frames.tail := hend
    have hW' : U.WarmedH s₂.vm := hW₂
    have hs₂ : s₂ = ((({ U with heap := s₂.heap, slotsUsed := s₂.slotsUsed } : State).setVm s₂.vm).setTop g).pushFrame (.throwing q) := by
      refine e3.trans ?_
      rw [hf₂, State.calling_eq h.top, State.setFrames_setFrames, State.pushFrame, State.frames_setTop _ hr', State.setTop_of_frames _ hr', State.setFrames_setFrames, hr]
      rfl
    have hsame : U.sameButNew ({ U with heap := s₂.heap, slotsUsed := s₂.slotsUsed } : State) L mc ms := by
      refine ⟨?_, q2, q3, q4, q5, q6⟩
      obtain ⟨t, ht, -⟩ := State.frames_cons hr
      show ({ U with heap := s₂.heap, slotsUsed := s₂.slotsUsed } : State) = { U.setFrames U.frames with heap := s₂.heap, slotsUsed := s₂.slotsUsed }
      rw [State.setFrames_self ht]
    subst hg
    refine Or.inr ⟨q, ⟨(({ U with heap := s₂.heap, slotsUsed := s₂.slotsUsed } : State).setVm s₂.vm), Ls ++ L, c0 + mc, s0 + ms⟩,
      ⟨X.admits, X.cas, X.clock, X.frames, X.room, X.hears, X.method, X.code, (X.here.setHeapUsed s₂.heap s₂.slotsUsed).setVm hW'.alike, X.tail, State.WarmedH.trans X.warmed hW', X.limits, X.bytes, X.same.trans (hsame.setVm s.vm)⟩,
      ⟨g, mk, s₂, L, E, ce, rfl, rfl, hx, hce, hcv, hcl, rfl, hL, rfl, rfl⟩, ?_⟩
    show Steps p.tables e below _ (((({ U with heap := s₂.heap, slotsUsed := s₂.slotsUsed } : State).setVm s₂.vm).setTop g).pushFrame (.throwing q))
    rw [← hs₂]
    exact hsteps
end Payer
section Calls
variable {p : Program} {l : Launch} {e : Env} {R : Room} {s : State} {m : MethodId} {args : Array Value} {below : List Frame} {meth : Method} {c : Code} {T : State} {locs : List Loc} {cells slots : Nat}
theorem vx_callV (X : Stand p l e R s m args below meth c T locs cells slots) (hexec : p.tables.exec = Jvm.exec) {own C : String} {index : Nat} {y : MethodName} {bytes : ByteArray} {maxL : Nat} {ret : Option FieldType}
    (hown : s.vm.findClass own = some m.cls) (hlink : (Cond.methodLink own index y).before args s = true) (hinst : (Cond.instanceMethod y).before args s = true) (hsel : (Cond.selects C y y).before args s = true)
    (hcode : (Cond.code y bytes maxL ret).before args s = true) (hy : y.cls ≠ "java/lang/invoke/MethodHandle" ∧ y.cls ≠ "java/lang/invoke/VarHandle")
    {W9 : Nat} {Pre : Pt → Array Value → Prop} {Post : Pt → Array Value → Option Value → Pt → Prop} {PostX : Pt → Array Value → Addr → Pt → Prop} (hK : vx_Back l R p e below s args y 3 W9 Pre Post PostX)
    {b : Addr} {cellB : Cell} (hcell : T.heap[b]? = some cellB) (hobj : cellB.vm.isStatics = false) (hcls : s.vm.findClass C = some cellB.cls)
    {g : JFrame} (hg : g.method = m) (hsize : g.locals.size = c.maxLocals) {argsL rest : List Value} (hlen : ∀ sig, parseMethodDescriptor y.desc = some sig → argsL.length = sig.parameters.length)
    (hstack : g.stack = argsL.reverse ++ .ref b :: rest) (hW : 2 * g.monitorRoom + (rest.map fun v => v.category).sum ≤ W9) (hdg : decode c.code g.pc = .ok (.invokevirtual index, 3))
    (hpre : ∀ vm₁, s.WarmedH vm₁ → Pre ⟨T.setVm vm₁, locs, cells, slots⟩ (Value.ref b :: argsL).toArray) :
    (∃ (v : Option Value) (vm₁ : Vm) (B : Pt), s.WarmedH vm₁ ∧ Stand p l e R s m args below meth c B.U B.locs B.cells B.slots ∧ Post ⟨T.setVm vm₁, locs, cells, slots⟩ (Value.ref b :: argsL).toArray v B ∧
      ∀ target, Steps p.tables e below (B.U.setTop { g with pc := g.pc + 3, stack := v.toList ++ rest }) target → Steps p.tables e below (T.setTop g) target) ∨
    (∃ (q : Addr) (vm₁ : Vm) (B : Pt), s.WarmedH vm₁ ∧ Stand p l e R s m args below meth c B.U B.locs B.cells B.slots ∧ PostX ⟨T.setVm vm₁, locs, cells, slots⟩ (Value.ref b :: argsL).toArray q B ∧
      Steps p.tables e below (T.setTop g) ((B.U.setTop { g with stack := rest }).pushFrame (.throwing q))) := by
  obtain ⟨mk, methM, hnamed, hmethM, hstM, habM⟩ := Cond.instanceMethod_spec hinst
  obtain ⟨methM', cM, hmethM', -, -, -, -, -, -, hsigM⟩ := Cond.code_spec hnamed hcode
  cases hmethM.symm.trans hmethM'
  obtain ⟨c2, r2, m2, q1, q2, q3, q4, kP, hkP, hkPi⟩ := Cond.selects_spec hsel
  cases hcls.symm.trans q1
  cases (State.methodFound?_of_named hnamed hy).symm.trans q2
  cases hnamed.symm.trans q3
  have hselP : selectMethod e.platform s.vm cellB.cls mk = .method mk := by rw [Launch.admits_selectMethod X.admits]; exact q4
  obtain ⟨vm₁, X₁, hstep₁⟩ := X.invokevirtual hexec hown hlink hnamed hmethM hstM hkP hkPi hy (a := b) (cell := cellB) hcell
    (fun z h => by rw [h] at hobj; cases hobj) hselP hmethM habM hkP hkPi (g := g) hg (argsL := argsL) (rest := rest) (hlen _ hsigM) hstack hdg
  rcases hK m meth c ⟨T.setVm vm₁, locs, cells, slots⟩ { g with stack := rest } (.invokevirtual index) mk (Value.ref b :: argsL).toArray X₁ hg hsize hdg hW (X₁.named hnamed) (hpre vm₁ X₁.warmed) with ⟨v, B, X', hpost, hsteps⟩ | ⟨q, B, X', hpost, hsteps⟩
  · exact Or.inl ⟨v, vm₁, B, X₁.warmed, X', hpost, fun target h => hstep₁ _ fun acts => by rw [doInvoke_state]; exact hsteps.trans h⟩
  · exact Or.inr ⟨q, vm₁, B, X₁.warmed, X', hpost, hstep₁ _ fun acts => by rw [doInvoke_state]; exact hsteps⟩
theorem vx_callS (X : Stand p l e R s m args below meth c T locs cells slots) (hexec : p.tables.exec = Jvm.exec) {own : String} {index : Nat} {y : MethodName} {bytes : ByteArray} {maxL : Nat} {ret : Option FieldType}
    (hown : s.vm.findClass own = some m.cls) (hlink : (Cond.methodLink own index y).before args s = true) (hstat : (Cond.static y).before args s = true) (hinit : (Cond.initialized y.cls).before args s = true)
    (hcode : (Cond.code y bytes maxL ret).before args s = true) (hy : y.cls ≠ "java/lang/invoke/MethodHandle" ∧ y.cls ≠ "java/lang/invoke/VarHandle")
    {W9 : Nat} {Pre : Pt → Array Value → Prop} {Post : Pt → Array Value → Option Value → Pt → Prop} {PostX : Pt → Array Value → Addr → Pt → Prop} (hK : vx_Back l R p e below s args y 3 W9 Pre Post PostX)
    {g : JFrame} (hg : g.method = m) (hsize : g.locals.size = c.maxLocals) {argsL rest : List Value} (hlen : ∀ sig, parseMethodDescriptor y.desc = some sig → argsL.length = sig.parameters.length)
    (hstack : g.stack = argsL.reverse ++ rest) (hW : 2 * g.monitorRoom + (rest.map fun v => v.category).sum ≤ W9) (hdg : decode c.code g.pc = .ok (.invokestatic index, 3))
    (hpre : ∀ vm₁, s.WarmedH vm₁ → Pre ⟨T.setVm vm₁, locs, cells, slots⟩ argsL.toArray) :
    (∃ (v : Option Value) (vm₁ : Vm) (B : Pt), s.WarmedH vm₁ ∧ Stand p l e R s m args below meth c B.U B.locs B.cells B.slots ∧ Post ⟨T.setVm vm₁, locs, cells, slots⟩ argsL.toArray v B ∧
      ∀ target, Steps p.tables e below (B.U.setTop { g with pc := g.pc + 3, stack := v.toList ++ rest }) target → Steps p.tables e below (T.setTop g) target) ∨
    (∃ (q : Addr) (vm₁ : Vm) (B : Pt), s.WarmedH vm₁ ∧ Stand p l e R s m args below meth c B.U B.locs B.cells B.slots ∧ PostX ⟨T.setVm vm₁, locs, cells, slots⟩ argsL.toArray q B ∧
      Steps p.tables e below (T.setTop g) ((B.U.setTop { g with stack := rest }).pushFrame (.throwing q))) := by
  obtain ⟨mk, hnamed⟩ := Cond.code_named hcode
  obtain ⟨methM, cM, hmethM, -, -, -, -, -, -, hsigM⟩ := Cond.code_spec hnamed hcode
  have hstatic : methM.isStatic = true := Cond.static_spec hnamed hmethM hstat
  obtain ⟨kP, hkP, -⟩ := className_of_methodNamed hnamed
  have hinitP : kP.init = .initialized := Cond.initialized_spec (findClass_of_methodNamed hnamed) hkP hinit
  obtain ⟨vm₁, X₁, hstep₁⟩ := X.invokestatic hexec hown hlink hnamed hmethM hstatic hkP hinitP hy (g := g) hg (argsL := argsL) (rest := rest) (hlen _ hsigM) hstack hdg
  rcases hK m meth c ⟨T.setVm vm₁, locs, cells, slots⟩ { g with stack := rest } (.invokestatic index) mk argsL.toArray X₁ hg hsize hdg hW (X₁.named hnamed) (hpre vm₁ X₁.warmed) with ⟨v, B, X', hpost, hsteps⟩ | ⟨q, B, X', hpost, hsteps⟩
  · exact Or.inl ⟨v, vm₁, B, X₁.warmed, X', hpost, fun target h => hstep₁ _ fun acts => by rw [doInvoke_state]; exact hsteps.trans h⟩
  · exact Or.inr ⟨q, vm₁, B, X₁.warmed, X', hpost, hstep₁ _ fun acts => by rw [doInvoke_state]; exact hsteps⟩
end Calls
theorem vx_cls {s : State} {T : State} {vm₁ : Vm} {E : String} {k : ClassId} (hW : s.WarmedH vm₁) (h : (T.setVm vm₁).vm.findClass E = some k) : s.vm.findClass E = some k := by
  have h1 : vm₁.findClass E = some k := h
  rw [hW.alike.findClass] at h1
  exact h1
/-- the method's frame g, with q thrown over it -/
def vx_W (p : Program) (l : Launch) (e : Env) (R : Room) (s : State) (m : MethodId) (args : Array Value) (below : List Frame) (meth : Method) (c : Code) (H : Heap) (locs : List Loc) (cells slots : Nat) (Q : State → Prop) (g : JFrame) (q : Addr) : Prop :=
  ∀ T : State, T.heap = H → Stand p l e R s m args below meth c T locs cells slots → ∃ t, Steps p.tables e below ((T.setTop g).pushFrame (.throwing q)) t ∧ Q t
def vx_Run (p : Program) (l : Launch) (e : Env) (R : Room) (s : State) (m : MethodId) (args : Array Value) (below : List Frame) (meth : Method) (c : Code) (H : Heap) (locs : List Loc) (cells slots mc ms : Nat) (g : JFrame) (rest : List Value) (Qa : State → Outcome → State → Prop) (XC : String → State → State → Prop) (free : Addr → Prop) : Prop :=
  ∀ T : State, T.heap = H → Stand p l e R s m args below meth c T locs cells slots →
    (∃ (v : Option Value) (st₀ t T' : State) (L : List Loc), st₀.heap = H ∧ Stand p l e R s m args below meth c T' (locs ++ L) (cells + mc) (slots + ms) ∧ (∀ q ∈ L, free q.base) ∧ T'.heap = t.heap ∧ T'.vm = t.vm ∧ Qa st₀ (.returned v) t ∧
      Goes p e below T g T' { g with pc := g.pc + 3, stack := v.toList ++ rest }) ∨
    (∃ (q : Addr) (st₀ t T' : State) (L : List Loc) (E : String) (ce : Cell), st₀.heap = H ∧ Stand p l e R s m args below meth c T' (locs ++ L) (cells + mc) (slots + ms) ∧ (∀ z ∈ L, free z.base) ∧ T'.heap = t.heap ∧ T'.vm = t.vm ∧ XC E st₀ t ∧ t.heap[q]? = some ce ∧ ce.vm = .none ∧ s.vm.findClass E = some ce.cls ∧
      Steps p.tables e below (T.setTop g) ((T'.setTop { g with stack := rest }).pushFrame (.throwing q)))
def vx_X {S : Type} (px : S → Prop) (B : String → S → State → Prop) (A : Nat → Prop) : String → State → State → Prop := fun E st t => ∃ u : S, px u ∧ B E u t ∧ va_F A st t
section Runs
variable {p : Program} {l : Launch} {e : Env} {R : Room} {s : State} {m : MethodId} {args : Array Value} {below : List Frame} {meth : Method} {c : Code} {H : Heap} {locs : List Loc} {cells slots : Nat}
variable {y : MethodName} {bytes cc : ByteArray} {maxL nL mc ms n index : Nat} {ret : Option FieldType} {ws : List Cond} {rm : Room} {Pc : Array Value → State → Prop} {Qc : Array Value → State → Outcome → State → Prop} {XC : String → State → State → Prop} {free : Addr → Prop} {Ts : List Cond} {own C : String} {b : Addr} {As rest : List Value} {g : JFrame}
theorem vx_callBack (cb : CallB R s args own index y bytes maxL ret ws rm mc ms n) (hM : vx_Met l y ws rm Pc Qc XC mc ms free) (hbl : FrameBlind Pc) : vx_Back l R p e below s args y 3 8 (PreOf R mc ms Pc) (PostOf Qc mc ms free) (vx_Post XC mc ms free) := by
  obtain ⟨hrc, hrs, hfr, hlo, hws, hcw, -, hini, -⟩ := cb
  exact vx_back (bytes := bytes) (maxL := maxL) (ret := ret) hM hbl hrc hrs hfr hlo hws hcw (fun a' U hW => word_at hW (Or.inl (by first | rfl | simp [Cond.onTables, Cond.keeps, Cond.steady])) hini)
theorem vx_runV (S : CallFix p m c cc nL s args Ts own) (hM : vx_Met l y ws rm Pc Qc XC mc ms free) (cw : CallW R s args own C index y bytes maxL ret ws rm mc ms n) (hp : PreV s H C b Pc As)
    (hg : g.method = m) (hn : As.length = n) (hsize : g.locals.size = nL) (hstack : g.stack = As.reverse ++ .ref b :: rest) (hW : 2 * g.monitorRoom + (rest.map fun v => v.category).sum ≤ 8) (hdg : decode cc g.pc = .ok (.invokevirtual index, 3)) (hf : cells + mc ≤ R.cells ∧ slots + ms ≤ R.slots) :
    vx_Run p l e R s m args below meth c H locs cells slots mc ms g rest (Qc (Value.ref b :: As).toArray) XC free := by
  have hK : vx_Back l R p e below s args y 3 8 (PreOf R mc ms Pc) (PostOf Qc mc ms free) (vx_Post XC mc ms free) := vx_callBack cw.1 hM hp.1
  obtain ⟨⟨-, -, -, -, -, -, hcode, -, hy, hlen, hl⟩, hin, hse⟩ := cw
  obtain ⟨hx, hb, hml, ho, -⟩ := S
  obtain ⟨-, ⟨cellB, hcB, hoB, hclB⟩, hPc⟩ := hp
  intro T hT X
  rcases vx_callV X hx (C := C) (bytes := bytes) (maxL := maxL) (ret := ret) ho hl hin hse hcode hy hK (by rw [hT]; exact hcB) hoB hclB hg (hsize.trans hml.symm) (argsL := As) (rest := rest) (fun sig h => hn.trans (hlen sig h)) hstack hW (by rw [hb]; exact hdg)
    (fun vm₁ hW₁ => ⟨hf.1, hf.2, hPc (T.setVm vm₁) hT hW₁⟩) with ⟨v, vm₁, ⟨U', l2, c2, s2⟩, hW₁, X', ⟨g', mk, t, L, e1, e2, hq, h1, hL, h2, h3⟩, st⟩ | ⟨q, vm₁, ⟨U', l2, c2, s2⟩, hW₁, X', ⟨g', mk, t, L, E, ce, e1, e2, hq, hce, hcv, hcl, h1, hL, h2, h3⟩, st⟩
  · dsimp only [Pt.U, Pt.locs, Pt.cells, Pt.slots] at X' e1 e2 h1 h2 h3 st
    subst h1; subst h2; subst h3
    exact Or.inl ⟨v, (T.setVm vm₁).calling g' mk (Value.ref b :: As).toArray, t, U', L, hT, X', hL, e1, e2, hq, st⟩
  · dsimp only [Pt.U, Pt.locs, Pt.cells, Pt.slots] at X' e1 e2 h1 h2 h3 st hcl
    subst h1; subst h2; subst h3
    exact Or.inr ⟨q, (T.setVm vm₁).calling g' mk (Value.ref b :: As).toArray, t, U', L, E, ce, hT, X', hL, e1, e2, hq, hce, hcv, vx_cls hW₁ hcl, st⟩
theorem vx_runS (S : CallFix p m c cc nL s args Ts own) (hM : vx_Met l y ws rm Pc Qc XC mc ms free) (cw : CallB R s args own index y bytes maxL ret ws rm mc ms n ∧ (Cond.static y).before args s = true) (hp : PreS s H Pc As)
    (hg : g.method = m) (hn : As.length = n) (hsize : g.locals.size = nL) (hstack : g.stack = As.reverse ++ rest) (hW : 2 * g.monitorRoom + (rest.map fun v => v.category).sum ≤ 8) (hdg : decode cc g.pc = .ok (.invokestatic index, 3)) (hf : cells + mc ≤ R.cells ∧ slots + ms ≤ R.slots) :
    vx_Run p l e R s m args below meth c H locs cells slots mc ms g rest (Qc As.toArray) XC free := by
  have hK : vx_Back l R p e below s args y 3 8 (PreOf R mc ms Pc) (PostOf Qc mc ms free) (vx_Post XC mc ms free) := vx_callBack cw.1 hM hp.1
  obtain ⟨⟨-, -, -, -, -, -, hcode, hini, hy, hlen, hl⟩, hstt⟩ := cw
  obtain ⟨hx, hb, hml, ho, -⟩ := S
  intro T hT X
  rcases vx_callS X hx (bytes := bytes) (maxL := maxL) (ret := ret) ho hl hstt hini hcode hy hK hg (hsize.trans hml.symm) (argsL := As) (rest := rest) (fun sig h => hn.trans (hlen sig h)) hstack hW (by rw [hb]; exact hdg)
    (fun vm₁ hW₁ => ⟨hf.1, hf.2, hp.2 (T.setVm vm₁) hT hW₁⟩) with ⟨v, vm₁, ⟨U', l2, c2, s2⟩, hW₁, X', ⟨g', mk, t, L, e1, e2, hq, h1, hL, h2, h3⟩, st⟩ | ⟨q, vm₁, ⟨U', l2, c2, s2⟩, hW₁, X', ⟨g', mk, t, L, E, ce, e1, e2, hq, hce, hcv, hcl, h1, hL, h2, h3⟩, st⟩
  · dsimp only [Pt.U, Pt.locs, Pt.cells, Pt.slots] at X' e1 e2 h1 h2 h3 st
    subst h1; subst h2; subst h3
    exact Or.inl ⟨v, (T.setVm vm₁).calling g' mk As.toArray, t, U', L, hT, X', hL, e1, e2, hq, st⟩
  · dsimp only [Pt.U, Pt.locs, Pt.cells, Pt.slots] at X' e1 e2 h1 h2 h3 st hcl
    subst h1; subst h2; subst h3
    exact Or.inr ⟨q, (T.setVm vm₁).calling g' mk As.toArray, t, U', L, E, ce, hT, X', hL, e1, e2, hq, hce, hcv, vx_cls hW₁ hcl, st⟩
end Runs
section Rows
variable {p : Program} {l : Launch} {e : Env} {R : Room} {s : State} {m : MethodId} {args : Array Value} {below : List Frame} {meth : Method} {c : Code} {H : Heap} {locs : List Loc} {cells slots : Nat} {Q : State → Prop}
variable {mc ms : Nat} {free : Addr → Prop} {A0 A1 : Nat → Prop} {H0 : Heap} {a : Array Value} {pc : Nat} {ls : Array Slot} {st0 rest : List Value}
theorem vx_keep {st₀ t T' : State} {L : List Loc} (h0 : st₀.heap = H) (e1 : T'.heap = t.heap) (hS : va_S A0 H0 H locs) (hA : ∀ q, q < H.size → A1 q → A0 q) (hf : ∀ q, free q → A0 q) (hL : ∀ q ∈ L, free q.base) (hF : va_F A1 st₀ t) :
    H.size ≤ T'.heap.size ∧ (∀ q : Nat, q < H.size → ¬ A1 q → T'.heap[q]? = H[q]?) ∧ va_S A0 H0 T'.heap (locs ++ L) := by
  obtain ⟨hz, hk⟩ := hF
  rw [h0] at hz hk
  exact ⟨by rw [e1]; exact hz, fun q h1 h2 => by rw [e1]; exact hk q h1 h2,
    ⟨Nat.le_trans hS.1 (by rw [e1]; exact hz), fun q h1 h2 => by rw [e1, hk q (Nat.lt_of_lt_of_le h1 hS.1) (fun z => h2 (hA q (Nat.lt_of_lt_of_le h1 hS.1) z))]; exact hS.2.1 q h1 h2, fun q hq => by
      rcases List.mem_append.mp hq with h | h
      · exact hS.2.2 q h
      · exact hf _ (hL q h)⟩⟩
theorem vx_calli {S SX : Type} {post : Int32 → S → Prop} {px : SX → Prop} {B : S → State → Prop} {BX : String → SX → State → Prop} {AX : Nat → Prop} (hr : vx_Run p l e R s m args below meth c H locs cells slots mc ms (F0 m pc ls st0) rest (va_Qi post B A1 a) (vx_X px BX AX) free) (hS : va_S A0 H0 H locs) (hA : ∀ q, q < H.size → A1 q → A0 q) (hf : ∀ q, free q → A0 q) (hAX : ∀ q, q < H.size → AX q → A0 q)
    (kx : ∀ (E : String) (ce : Cell) (q9 : Addr) (u : SX) (t : State) (H1 : Heap) (locs1 : List Loc), t.heap = H1 → s.vm.Alike t.vm → px u → BX E u t → H.size ≤ H1.size → (∀ q : Nat, q < H.size → ¬ AX q → H1[q]? = H[q]?) → va_S A0 H0 H1 locs1 → H1[q9]? = some ce → ce.vm = .none → s.vm.findClass E = some ce.cls → vx_W p l e R s m args below meth c H1 locs1 (cells + mc) (slots + ms) Q (F0 m pc ls rest) q9)
    (kk : ∀ (r : Int32) (u : S) (t : State) (H1 : Heap) (locs1 : List Loc), t.heap = H1 → s.vm.Alike t.vm → post r u → B u t → H.size ≤ H1.size → (∀ q : Nat, q < H.size → ¬ A1 q → H1[q]? = H[q]?) → va_S A0 H0 H1 locs1 → W p l e R s m args below meth c H1 locs1 (cells + mc) (slots + ms) Q (F0 m (pc + 3) ls (.int r :: rest))) : W p l e R s m args below meth c H locs cells slots Q (F0 m pc ls st0) := by
  intro T hT X
  rcases hr T hT X with ⟨v, st₀, t, T', L, h0, X', hL, e1, e2, ⟨⟨r, u, hv, hp, hb⟩, hF⟩, st⟩ | ⟨q, st₀, t, T', L, E, ce, h0, X', hL, e1, e2, ⟨u, hp, hb, hF⟩, hce, hcv, hcl, st⟩
  · cases hv
    obtain ⟨k1, k2, k3⟩ := vx_keep h0 e1 hS hA hf hL hF
    obtain ⟨t2, a1, b1⟩ := kk r u t T'.heap (locs ++ L) e1.symm (by rw [← e2]; exact X'.warmed.alike) hp hb k1 k2 k3 T' rfl X'
    exact ⟨t2, st t2 a1, b1⟩
  · obtain ⟨k1, k2, k3⟩ := vx_keep h0 e1 hS hAX hf hL hF
    obtain ⟨t2, a1, b1⟩ := kx E ce q u t T'.heap (locs ++ L) e1.symm (by rw [← e2]; exact X'.warmed.alike) hp hb k1 k2 k3 (by rw [e1]; exact hce) hcv hcl T' rfl X'
    exact ⟨t2, st.trans a1, b1⟩
theorem vx_calll {S SX : Type} {post : Int64 → S → Prop} {px : SX → Prop} {B : S → State → Prop} {BX : String → SX → State → Prop} {AX : Nat → Prop} (hr : vx_Run p l e R s m args below meth c H locs cells slots mc ms (F0 m pc ls st0) rest (va_Ql post B A1 a) (vx_X px BX AX) free) (hS : va_S A0 H0 H locs) (hA : ∀ q, q < H.size → A1 q → A0 q) (hf : ∀ q, free q → A0 q) (hAX : ∀ q, q < H.size → AX q → A0 q)
    (kx : ∀ (E : String) (ce : Cell) (q9 : Addr) (u : SX) (t : State) (H1 : Heap) (locs1 : List Loc), t.heap = H1 → s.vm.Alike t.vm → px u → BX E u t → H.size ≤ H1.size → (∀ q : Nat, q < H.size → ¬ AX q → H1[q]? = H[q]?) → va_S A0 H0 H1 locs1 → H1[q9]? = some ce → ce.vm = .none → s.vm.findClass E = some ce.cls → vx_W p l e R s m args below meth c H1 locs1 (cells + mc) (slots + ms) Q (F0 m pc ls rest) q9)
    (kk : ∀ (r : Int64) (u : S) (t : State) (H1 : Heap) (locs1 : List Loc), t.heap = H1 → s.vm.Alike t.vm → post r u → B u t → H.size ≤ H1.size → (∀ q : Nat, q < H.size → ¬ A1 q → H1[q]? = H[q]?) → va_S A0 H0 H1 locs1 → W p l e R s m args below meth c H1 locs1 (cells + mc) (slots + ms) Q (F0 m (pc + 3) ls (.long r :: rest))) : W p l e R s m args below meth c H locs cells slots Q (F0 m pc ls st0) := by
  intro T hT X
  rcases hr T hT X with ⟨v, st₀, t, T', L, h0, X', hL, e1, e2, ⟨⟨r, u, hv, hp, hb⟩, hF⟩, st⟩ | ⟨q, st₀, t, T', L, E, ce, h0, X', hL, e1, e2, ⟨u, hp, hb, hF⟩, hce, hcv, hcl, st⟩
  · cases hv
    obtain ⟨k1, k2, k3⟩ := vx_keep h0 e1 hS hA hf hL hF
    obtain ⟨t2, a1, b1⟩ := kk r u t T'.heap (locs ++ L) e1.symm (by rw [← e2]; exact X'.warmed.alike) hp hb k1 k2 k3 T' rfl X'
    exact ⟨t2, st t2 a1, b1⟩
  · obtain ⟨k1, k2, k3⟩ := vx_keep h0 e1 hS hAX hf hL hF
    obtain ⟨t2, a1, b1⟩ := kx E ce q u t T'.heap (locs ++ L) e1.symm (by rw [← e2]; exact X'.warmed.alike) hp hb k1 k2 k3 (by rw [e1]; exact hce) hcv hcl T' rfl X'
    exact ⟨t2, st.trans a1, b1⟩
theorem vx_callf {S SX : Type} {post : UInt32 → S → Prop} {px : SX → Prop} {B : S → State → Prop} {BX : String → SX → State → Prop} {AX : Nat → Prop} (hr : vx_Run p l e R s m args below meth c H locs cells slots mc ms (F0 m pc ls st0) rest (va_Qf post B A1 a) (vx_X px BX AX) free) (hS : va_S A0 H0 H locs) (hA : ∀ q, q < H.size → A1 q → A0 q) (hf : ∀ q, free q → A0 q) (hAX : ∀ q, q < H.size → AX q → A0 q)
    (kx : ∀ (E : String) (ce : Cell) (q9 : Addr) (u : SX) (t : State) (H1 : Heap) (locs1 : List Loc), t.heap = H1 → s.vm.Alike t.vm → px u → BX E u t → H.size ≤ H1.size → (∀ q : Nat, q < H.size → ¬ AX q → H1[q]? = H[q]?) → va_S A0 H0 H1 locs1 → H1[q9]? = some ce → ce.vm = .none → s.vm.findClass E = some ce.cls → vx_W p l e R s m args below meth c H1 locs1 (cells + mc) (slots + ms) Q (F0 m pc ls rest) q9)
    (kk : ∀ (r : UInt32) (u : S) (t : State) (H1 : Heap) (locs1 : List Loc), t.heap = H1 → s.vm.Alike t.vm → post r u → B u t → H.size ≤ H1.size → (∀ q : Nat, q < H.size → ¬ A1 q → H1[q]? = H[q]?) → va_S A0 H0 H1 locs1 → W p l e R s m args below meth c H1 locs1 (cells + mc) (slots + ms) Q (F0 m (pc + 3) ls (.float r :: rest))) : W p l e R s m args below meth c H locs cells slots Q (F0 m pc ls st0) := by
  intro T hT X
  rcases hr T hT X with ⟨v, st₀, t, T', L, h0, X', hL, e1, e2, ⟨⟨r, u, hv, hp, hb⟩, hF⟩, st⟩ | ⟨q, st₀, t, T', L, E, ce, h0, X', hL, e1, e2, ⟨u, hp, hb, hF⟩, hce, hcv, hcl, st⟩
  · cases hv
    obtain ⟨k1, k2, k3⟩ := vx_keep h0 e1 hS hA hf hL hF
    obtain ⟨t2, a1, b1⟩ := kk r u t T'.heap (locs ++ L) e1.symm (by rw [← e2]; exact X'.warmed.alike) hp hb k1 k2 k3 T' rfl X'
    exact ⟨t2, st t2 a1, b1⟩
  · obtain ⟨k1, k2, k3⟩ := vx_keep h0 e1 hS hAX hf hL hF
    obtain ⟨t2, a1, b1⟩ := kx E ce q u t T'.heap (locs ++ L) e1.symm (by rw [← e2]; exact X'.warmed.alike) hp hb k1 k2 k3 (by rw [e1]; exact hce) hcv hcl T' rfl X'
    exact ⟨t2, st.trans a1, b1⟩
theorem vx_calld {S SX : Type} {post : UInt64 → S → Prop} {px : SX → Prop} {B : S → State → Prop} {BX : String → SX → State → Prop} {AX : Nat → Prop} (hr : vx_Run p l e R s m args below meth c H locs cells slots mc ms (F0 m pc ls st0) rest (va_Qd post B A1 a) (vx_X px BX AX) free) (hS : va_S A0 H0 H locs) (hA : ∀ q, q < H.size → A1 q → A0 q) (hf : ∀ q, free q → A0 q) (hAX : ∀ q, q < H.size → AX q → A0 q)
    (kx : ∀ (E : String) (ce : Cell) (q9 : Addr) (u : SX) (t : State) (H1 : Heap) (locs1 : List Loc), t.heap = H1 → s.vm.Alike t.vm → px u → BX E u t → H.size ≤ H1.size → (∀ q : Nat, q < H.size → ¬ AX q → H1[q]? = H[q]?) → va_S A0 H0 H1 locs1 → H1[q9]? = some ce → ce.vm = .none → s.vm.findClass E = some ce.cls → vx_W p l e R s m args below meth c H1 locs1 (cells + mc) (slots + ms) Q (F0 m pc ls rest) q9)
    (kk : ∀ (r : UInt64) (u : S) (t : State) (H1 : Heap) (locs1 : List Loc), t.heap = H1 → s.vm.Alike t.vm → post r u → B u t → H.size ≤ H1.size → (∀ q : Nat, q < H.size → ¬ A1 q → H1[q]? = H[q]?) → va_S A0 H0 H1 locs1 → W p l e R s m args below meth c H1 locs1 (cells + mc) (slots + ms) Q (F0 m (pc + 3) ls (.double r :: rest))) : W p l e R s m args below meth c H locs cells slots Q (F0 m pc ls st0) := by
  intro T hT X
  rcases hr T hT X with ⟨v, st₀, t, T', L, h0, X', hL, e1, e2, ⟨⟨r, u, hv, hp, hb⟩, hF⟩, st⟩ | ⟨q, st₀, t, T', L, E, ce, h0, X', hL, e1, e2, ⟨u, hp, hb, hF⟩, hce, hcv, hcl, st⟩
  · cases hv
    obtain ⟨k1, k2, k3⟩ := vx_keep h0 e1 hS hA hf hL hF
    obtain ⟨t2, a1, b1⟩ := kk r u t T'.heap (locs ++ L) e1.symm (by rw [← e2]; exact X'.warmed.alike) hp hb k1 k2 k3 T' rfl X'
    exact ⟨t2, st t2 a1, b1⟩
  · obtain ⟨k1, k2, k3⟩ := vx_keep h0 e1 hS hAX hf hL hF
    obtain ⟨t2, a1, b1⟩ := kx E ce q u t T'.heap (locs ++ L) e1.symm (by rw [← e2]; exact X'.warmed.alike) hp hb k1 k2 k3 (by rw [e1]; exact hce) hcv hcl T' rfl X'
    exact ⟨t2, st.trans a1, b1⟩
theorem vx_callv {S SX : Type} {post : S → Prop} {px : SX → Prop} {B : S → State → Prop} {BX : String → SX → State → Prop} {AX : Nat → Prop} (hr : vx_Run p l e R s m args below meth c H locs cells slots mc ms (F0 m pc ls st0) rest (va_Qv post B A1 a) (vx_X px BX AX) free) (hS : va_S A0 H0 H locs) (hA : ∀ q, q < H.size → A1 q → A0 q) (hf : ∀ q, free q → A0 q) (hAX : ∀ q, q < H.size → AX q → A0 q)
    (kx : ∀ (E : String) (ce : Cell) (q9 : Addr) (u : SX) (t : State) (H1 : Heap) (locs1 : List Loc), t.heap = H1 → s.vm.Alike t.vm → px u → BX E u t → H.size ≤ H1.size → (∀ q : Nat, q < H.size → ¬ AX q → H1[q]? = H[q]?) → va_S A0 H0 H1 locs1 → H1[q9]? = some ce → ce.vm = .none → s.vm.findClass E = some ce.cls → vx_W p l e R s m args below meth c H1 locs1 (cells + mc) (slots + ms) Q (F0 m pc ls rest) q9)
    (kk : ∀ (u : S) (t : State) (H1 : Heap) (locs1 : List Loc), t.heap = H1 → s.vm.Alike t.vm → post u → B u t → H.size ≤ H1.size → (∀ q : Nat, q < H.size → ¬ A1 q → H1[q]? = H[q]?) → va_S A0 H0 H1 locs1 → W p l e R s m args below meth c H1 locs1 (cells + mc) (slots + ms) Q (F0 m (pc + 3) ls (rest))) : W p l e R s m args below meth c H locs cells slots Q (F0 m pc ls st0) := by
  intro T hT X
  rcases hr T hT X with ⟨v, st₀, t, T', L, h0, X', hL, e1, e2, ⟨⟨u, hv, hp, hb⟩, hF⟩, st⟩ | ⟨q, st₀, t, T', L, E, ce, h0, X', hL, e1, e2, ⟨u, hp, hb, hF⟩, hce, hcv, hcl, st⟩
  · cases hv
    obtain ⟨k1, k2, k3⟩ := vx_keep h0 e1 hS hA hf hL hF
    obtain ⟨t2, a1, b1⟩ := kk u t T'.heap (locs ++ L) e1.symm (by rw [← e2]; exact X'.warmed.alike) hp hb k1 k2 k3 T' rfl X'
    exact ⟨t2, st t2 a1, b1⟩
  · obtain ⟨k1, k2, k3⟩ := vx_keep h0 e1 hS hAX hf hL hF
    obtain ⟨t2, a1, b1⟩ := kx E ce q u t T'.heap (locs ++ L) e1.symm (by rw [← e2]; exact X'.warmed.alike) hp hb k1 k2 k3 (by rw [e1]; exact hce) hcv hcl T' rfl X'
    exact ⟨t2, st.trans a1, b1⟩
/-- caught by the row x of this method's table; the rows ahead don't take it -/
theorem vx_catch {own name : String} {E : String} {ce : Cell} {q : Addr} (hown : s.vm.findClass own = some m.cls) (pre : List ExceptionTableEntry) (x : ExceptionTableEntry) (suf : List ExceptionTableEntry) (hsplit : c.exceptionTable.toList = pre ++ x :: suf)
    (hpass : ∀ z ∈ pre, covers z pc = false ∨ (z.catchType ≠ 0 ∧ ∃ nm : String, (Cond.classLink own z.catchType nm).before args s = true ∧ va_Nc E nm s)) (hx : covers x pc = true) (h0 : x.catchType ≠ 0)
    (hlink : (Cond.classLink own x.catchType name).before args s = true) (hcast : (Cond.castable E name).before args s = true) (hcell : H[q]? = some ce) (hv : ce.vm = .none) (hcl : s.vm.findClass E = some ce.cls)
    (kk : W p l e R s m args below meth c H locs cells slots Q (F0 m x.handlerPc ls [.ref q])) : vx_W p l e R s m args below meth c H locs cells slots Q (F0 m pc ls rest) q := by
  sorry
end Rows
section Ends
variable {p : Program} {l : Launch} {e : Env} {R : Room} {s : State} {m : MethodId} {args : Array Value} {below : List Frame} {meth : Method} {c : Code} {H : Heap} {locs : List Loc} {cells slots : Nat} {Q : State → Prop}
variable {mc ms : Nat} {free : Addr → Prop} {A0 A1 : Nat → Prop} {H0 : Heap} {a : Array Value} {ls : Array Slot} {st0 rest : List Value}
variable {Qc : Array Value → State → Outcome → State → Prop} {XC : String → State → State → Prop}
/-- what a body that may throw owes at its end -/
def vx_MQ (below : List Frame) (Qc : Array Value → State → Outcome → State → Prop) (XC : String → State → State → Prop) (a : Array Value) (s : State) (mc ms : Nat) (free : Addr → Prop) : State → Prop := fun t =>
  ∃ o, t.status = .running ∧ Ended t below o ∧ vx_Q Qc XC mc ms free a s o t
theorem vx_ret {g : JFrame} {mc ms : Nat} (k : W p l e R s m args below meth c H locs cells slots (MQ below Qc args s mc ms free) g) : W p l e R s m args below meth c H locs cells slots (vx_MQ below Qc XC args s mc ms free) g := by
  intro T hT X
  obtain ⟨t, a1, o, b1, b2, b3, b4⟩ := k T hT X
  exact ⟨t, a1, o, b1, b2, Or.inl ⟨b3, b4⟩⟩
/-- not caught here: it goes on to the caller -/
theorem vx_widen {g : JFrame} {q : Addr} {k n : Nat} (h1 : cells ≤ k) (h2 : slots ≤ n) (kk : vx_W p l e R s m args below meth c H locs k n Q g q) : vx_W p l e R s m args below meth c H locs cells slots Q g q := fun T hT X => kk T hT (stand_widen X h1 h2)
theorem vx_out {pc : Nat} {E : String} {ce : Cell} {q : Addr} {mc ms : Nat} (hout : ∀ x ∈ c.exceptionTable.toList, covers x pc = false) (hlocks : meth.locks = false) (hcell : H[q]? = some ce) (hv : ce.vm = .none) (hcl : s.vm.findClass E = some ce.cls)
    (hx : ∀ t : State, t.heap = H → s.vm.Alike t.vm → XC E s t) (hf : ∀ z ∈ locs, free z.base) (hc : cells ≤ mc) (hs : slots ≤ ms) :
    vx_W p l e R s m args below meth c H locs cells slots (vx_MQ below Qc XC args s mc ms free) (F0 m pc ls rest) q := by
  intro T hT X
  obtain ⟨st1, hrun, hend, hW, hsm⟩ := X.leaveThrown q (g := F0 m pc ls rest) rfl rfl rfl hout hlocks
  have hcell9 : (T.setFrames (.throwing q :: below)).heap[q]? = some ce := by
    show T.heap[q]? = some ce
    rw [hT]; exact hcell
  exact ⟨_, st1, .threw q, hrun, hend, Or.inr ⟨q, rfl, E, ce, locs, hx _ hT hW.alike, hcell9, hv, hcl, hW, hsm.mono hc hs, hf⟩⟩
theorem vx_frame {U : State} {k n : Nat} (h : s.sameButNew ({ U with vm := s.vm } : State) locs k n) : s.heap.size ≤ U.heap.size ∧ ∀ q : Nat, q < s.heap.size → (∀ z ∈ locs, z.base ≠ q) → U.heap[q]? = s.heap[q]? := by
  obtain ⟨-, h2, -, -, -, h6⟩ := h
  refine ⟨h2, fun q hq hz => ?_⟩
  obtain ⟨c9, e1, e2, e3, e4⟩ := h6 q _ (Array.getElem?_eq_getElem hq)
  have hs : c9.slots = (s.heap[q]).slots := Array.ext_getElem? fun i => e4 i fun hm => hz _ hm rfl
  have h9 : c9 = s.heap[q] := by
    rw [hs] at e2
    exact e2
  have e5 : U.heap[q]? = some c9 := e1
  rw [e5, h9, Array.getElem?_eq_getElem hq]
/-- the words of a throw but the four that speak of the heap -/
def vx_no (w : Cond) : Bool := decide (w ≠ .isRef (.static Bundle.tN "UNASSIGNED_STACK" Bundle.steD)) && decide (w ≠ .isRef (.static Bundle.tN "SUPPRESSED_SENTINEL" Bundle.listD)) && decide (w ≠ .laysStatic Bundle.tN "UNASSIGNED_STACK" Bundle.steD) && decide (w ≠ .laysStatic Bundle.tN "SUPPRESSED_SENTINEL" Bundle.listD)
def vx_at0 (own : String) (ic : Nat) (X : String) (names : List String) : List Cond := (Bundle.ownAtoms0 own ic X names).filter vx_no
def vx_atS (own : String) (ic : Nat) (X : String) (names : List String) : List Cond := (Bundle.ownAtoms own ic X names).filter vx_no
/-- a word that the tables alone decide, or a good one -/
def vx_ot (w : Cond) : Bool := w.onTables || goodWord w
theorem vx_ot_at {args a' : Array Value} {s U : State} {w : Cond} (hW : s.WarmedH U.vm) (hvm : s.vm = U.vm) (hg : vx_ot w = true) (h : w.before args s = true) : w.before a' U = true := by
  simp only [vx_ot, Bool.or_eq_true] at hg
  rcases hg with hg | hg
  · exact va_tabs hg hvm h
  · exact word_at hW (good_of_word hg) h
/-- a list's words: the good ones out of the method's own list, the others by premises of their own -/
theorem vx_hat {args : Array Value} {s : State} {L B : List Cond} (h1 : ∀ w ∈ L.filter goodWord, w.before args s = true) (h2 : ∀ w ∈ L.filter (fun w => !goodWord w), w ∈ B) (h3 : ∀ w ∈ B, w.before args s = true) : ∀ w ∈ L, w.before args s = true := by
  intro w hw
  by_cases g : goodWord w = true
  · exact h1 w (List.mem_filter.mpr ⟨hw, g⟩)
  · refine h3 w (h2 w (List.mem_filter.mpr ⟨hw, ?_⟩))
    show (!goodWord w) = true
    cases hgw : goodWord w
    · rfl
    · exact absurd hgw g
theorem vx_c {args : Array Value} {s : State} {w : Cond} {B : List Cond} (h : w.before args s = true) (t : ∀ w ∈ B, w.before args s = true) : ∀ w' ∈ w :: B, w'.before args s = true := fun w' h' => (List.mem_cons.mp h').elim (fun e => by rw [e]; exact h) (t w')
theorem vx_n {args : Array Value} {s : State} : ∀ w ∈ ([] : List Cond), w.before args s = true := fun _ h => nomatch h
theorem vx_own {args : Array Value} {s : State} {L : List Cond} (h1 : ∀ w ∈ L.filter vx_no, w.before args s = true)
    (hU : (Cond.isRef (.static Bundle.tN "UNASSIGNED_STACK" Bundle.steD)).before args s = true) (hN : (Cond.isRef (.static Bundle.tN "SUPPRESSED_SENTINEL" Bundle.listD)).before args s = true)
    (lU : (Cond.laysStatic Bundle.tN "UNASSIGNED_STACK" Bundle.steD).before args s = true) (lN : (Cond.laysStatic Bundle.tN "SUPPRESSED_SENTINEL" Bundle.listD).before args s = true) : ∀ w ∈ L, w.before args s = true := by
  intro w hw
  by_cases e1 : w = .isRef (.static Bundle.tN "UNASSIGNED_STACK" Bundle.steD)
  · rw [e1]; exact hU
  · by_cases e2 : w = .isRef (.static Bundle.tN "SUPPRESSED_SENTINEL" Bundle.listD)
    · rw [e2]; exact hN
    · by_cases e3 : w = .laysStatic Bundle.tN "UNASSIGNED_STACK" Bundle.steD
      · rw [e3]; exact lU
      · by_cases e4 : w = .laysStatic Bundle.tN "SUPPRESSED_SENTINEL" Bundle.listD
        · rw [e4]; exact lN
        · exact h1 w (List.mem_filter.mpr ⟨hw, by unfold vx_no; rw [decide_eq_true e1, decide_eq_true e2, decide_eq_true e3, decide_eq_true e4]; rfl⟩)
/-- where a static field lies, its class's statics cell in H -/
def vx_L (C n d : String) (A : Nat → Prop) (U : State) (H : Heap) : Prop := ∃ (c : ClassId) (k : Class) (i : Nat) (f : Field) (a : Nat) (cell : Cell), U.vm.findClass C = some c ∧ U.fieldFound? C n d = some (c, k, i, f) ∧ f.isStatic = true ∧ k.statics = some a ∧ H[a]? = some cell ∧ cell.vm.isStatics = true ∧ cell.cls = c ∧ f.slot < cell.slots.size ∧ k.staticTypes[f.slot]? = some f.type ∧ ¬ A a
theorem vx_L.moved {C n d : String} {A : Nat → Prop} {u U : State} {H : Heap} (hvm : u.vm.Alike U.vm) (h : vx_L C n d A u H) : vx_L C n d A U H := by
  obtain ⟨c, k, i, f, a, cell, h1, h2, h3, h4, h5, h6, h7, h8, h9, h10⟩ := h
  obtain ⟨k', hi', he⟩ := State.fieldFound?_setVm hvm h2
  exact ⟨c, k', i, f, a, cell, by rw [hvm.findClass]; exact h1, hi', h3, by rw [he]; exact h4, h5, h6, h7, h8, by rw [he]; exact h9, h10⟩
theorem vx_L.kept {C n d : String} {A : Nat → Prop} {U : State} {H H1 : Heap} (h : vx_L C n d A U H) (hq : ∀ a : Nat, a < H.size → ¬ A a → H1[a]? = H[a]?) : vx_L C n d A U H1 := by
  obtain ⟨c, k, i, f, a, cell, h1, h2, h3, h4, h5, h6, h7, h8, h9, h10⟩ := h
  exact ⟨c, k, i, f, a, cell, h1, h2, h3, h4, by rw [hq a (Array.getElem?_eq_some_iff.mp h5).1 h10]; exact h5, h6, h7, h8, h9, h10⟩
theorem vx_L.narrow {C n d : String} {A B : Nat → Prop} {U : State} {H : Heap} (h : vx_L C n d A U H) (hAB : ∀ q, B q → A q) : vx_L C n d B U H := by
  obtain ⟨c, k, i, f, a, cell, h1, h2, h3, h4, h5, h6, h7, h8, h9, h10⟩ := h
  exact ⟨c, k, i, f, a, cell, h1, h2, h3, h4, h5, h6, h7, h8, h9, fun z => h10 (hAB _ z)⟩
theorem vx_L.word {C n d : String} {A : Nat → Prop} {s : State} {args : Array Value} (h : vx_L C n d A s s.heap) : (Cond.laysStatic C n d).before args s = true := by
  obtain ⟨c, k, i, f, a, cell, h1, h2, h3, h4, h5, h6, h7, h8, h9, -⟩ := h
  show (Cond.laysStatic C n d).holds args s none s [] = true
  exact Cond.laysStatic_of h1 h2 h3 h4 h5 h6 h7 h8 h9
/-- .. and what it holds: null or some reference -/
def vx_Zq (C n d : String) (A : Nat → Prop) (U : State) (H : Heap) : Prop := va_Zq C n d A U H ∧ vx_L C n d A U H
theorem vx_Zq.moved {C n d : String} {A : Nat → Prop} {u U : State} {H : Heap} (hvm : u.vm.Alike U.vm) (h : vx_Zq C n d A u H) : vx_Zq C n d A U H := ⟨va_Zq.moved hvm h.1, vx_L.moved hvm h.2⟩
theorem vx_Zq.kept {C n d : String} {A : Nat → Prop} {U : State} {H H1 : Heap} (h : vx_Zq C n d A U H) (hq : ∀ a : Nat, a < H.size → ¬ A a → H1[a]? = H[a]?) : vx_Zq C n d A U H1 := ⟨va_Zq.kept h.1 hq, vx_L.kept h.2 hq⟩
theorem vx_Zq.narrow {C n d : String} {A B : Nat → Prop} {U : State} {H : Heap} (h : vx_Zq C n d A U H) (hAB : ∀ q, B q → A q) : vx_Zq C n d B U H := ⟨va_Zq.narrow h.1 hAB, vx_L.narrow h.2 hAB⟩
theorem vx_Zqof {args : Array Value} {s : State} {C n d : String} {A : Nat → Prop} (hl : (Cond.laysStatic C n d).before args s = true) (hini : (Cond.initialized C).before args s = true) (h : (Cond.isRef (.static C n d)).before args s = true) (hA : ∀ a : Nat, a < s.heap.size → ¬ A a) : vx_Zq C n d A s s.heap := by
  refine ⟨va_Zqof hl hini h hA, ?_⟩
  obtain ⟨c, k, i, f, a, cell, h1, h2, h3, h4, h5, h6, h7, h8, h9⟩ := Cond.laysStatic_spec hl
  exact ⟨c, k, i, f, a, cell, h1, h2, h3, h4, h5, h6, h7, h8, h9, hA a (Array.getElem?_eq_some_iff.mp h5).1⟩
theorem vx_isRef {C n d : String} {v : Value} {A : Nat → Prop} {s : State} {args : Array Value} (h : va_Z C n d v A s s.heap) (hv : v.isRef = true) : (Cond.isRef (.static C n d)).before args s = true := by
  obtain ⟨cf, kf, fi, f, a, cell, h1, h2, h3, h4, h5, h6, h7, -⟩ := h
  have he : (Term.static C n d).eval args s none [] s = some v := by
    simp [Term.eval, State.fieldNamed?, h1, h2, h4, h5, h6, h7]
  simp only [Cond.before, Cond.holds, Cond.value, he]
  cases v <;> simp_all [Value.isRef]
theorem vx_isRefq {C n d : String} {A : Nat → Prop} {s : State} {args : Array Value} (h : va_Zq C n d A s s.heap) : (Cond.isRef (.static C n d)).before args s = true := by
  rcases h with h | ⟨t, h⟩
  · exact vx_isRef h rfl
  · exact vx_isRef h rfl
/-- the same frame, seen from here: as if the method were called anew in this heap -/
theorem vx_rebase {T : State} (X : Stand p l e R s m args below meth c T locs cells slots) {R' : Room} (hf : R'.frames ≤ R.frames) (hl : R'.locals ≤ R.locals) (hc : cells + R'.cells ≤ R.cells) (hs : slots + R'.slots ≤ R.slots) :
    Stand p l e R' ((T.setVm s.vm).setFrames (.invoking m args :: below)) m args below meth c T [] 0 0 := by
  have htop : (T.setVm s.vm).topJava?.isSome := X.here.top
  have hF : ((T.setVm s.vm).setFrames (.invoking m args :: below)).frames = .invoking m args :: below := State.frames_setFrames _ (State.cur_lt_of_top htop)
  obtain ⟨g₀, hg0⟩ := Option.isSome_iff_exists.mp htop
  obtain ⟨r, hr⟩ := State.topJava?_eq_some.mp hg0
  have hl9 : e.platform.stackLimits (T.setVm s.vm).me = e.platform.stackLimits s.me := X.limits
  have hb9 : (T.setVm s.vm).me.stackBytes = s.me.stackBytes := X.bytes
  refine ⟨X.admits, X.cas, X.clock, hF, ?_, X.hears, X.method, X.code, X.here, X.tail, X.warmed, ?_, ?_, ?_⟩
  · have h := X.room
    have hU : ((T.setVm s.vm).setFrames (.invoking m args :: below)).localsInUse = s.localsInUse := by
      rw [State.localsInUse_invoking hF (meth := meth) (c := c) X.method X.code, State.localsInUse_invoking X.frames X.method X.code]
    simp only [State.hasRoom, Bool.and_eq_true, decide_eq_true_eq] at h ⊢
    obtain ⟨⟨⟨⟨h1, h2, h3, h4, h5, h6⟩, h7⟩, h8⟩, h9⟩ := h
    rw [X.frames, List.length_cons] at h2 h3
    have q1 := X.heapSize
    have q2 := X.used
    simp only [hF, hU, List.length_cons, State.stackLimits_setFrames, State.stackBytes_setFrames, hl9, hb9]
    refine ⟨⟨⟨⟨by omega, by omega, by omega, by omega, by omega, h6⟩, ?_⟩, ?_⟩, X.book⟩
    · show T.heap.size + R'.cells ≤ e.platform.maxCells
      omega
    · show T.slotsUsed + R'.slots ≤ e.platform.maxSlots
      omega
  · rw [State.stackLimits_setFrames]; rfl
  · rw [State.stackBytes_setFrames]; rfl
  · refine ⟨?_, Nat.le_refl _, Nat.le_refl _, ?_, ?_, fun a c9 h9 => ⟨c9, h9, rfl, rfl, fun _ _ => rfl⟩⟩
    · obtain ⟨t, ht, -⟩ := State.frames_cons hr
      show T.setVm s.vm = { ((T.setVm s.vm).setFrames (.invoking m args :: below)).setFrames (T.setVm s.vm).frames with heap := T.heap, slotsUsed := T.slotsUsed }
      rw [State.setFrames_setFrames, State.setFrames_self ht]
      rfl
    · show T.slotsUsed = T.slotsUsed + ((T.heap.toList.drop T.heap.size).map (·.slots.size)).sum
      rw [List.drop_eq_nil_of_le (Nat.le_of_eq Array.length_toList)]
      rfl
    · show ((T.heap.toList.drop T.heap.size).map (·.slots.size)).sum ≤ 0
      rw [List.drop_eq_nil_of_le (Nat.le_of_eq Array.length_toList)]
      exact Nat.le_refl _
/-- 'throw new E()': new; dup; invokespecial; athrow -/
theorem vx_throw0 {cc : ByteArray} {pc : Nat} (hexec : p.tables.exec = Jvm.exec) (hb : c.code = cc) (hl : l.stackTraces = false) {own cls : String} {names : List String} {ik ic mc ms : Nat} {A : Nat → Prop}
    (hown : s.vm.findClass own = some m.cls) (hcls : Bundle.fit cls = true) (hnames : ∀ n ∈ names, Bundle.fit n = true)
    (hk : (Cond.classLink own ik cls).before args s = true) (hini : (Cond.initialized cls).before args s = true) (hat : ∀ w ∈ vx_at0 own ic cls names, w.before args s = true)
    (hgood : ∀ w ∈ Cond.classLink own ik cls :: Cond.initialized cls :: vx_at0 own ic cls names, vx_ot w = true)
    (hU : vx_Zq Bundle.tN "UNASSIGNED_STACK" Bundle.steD A s s.heap) (hN : vx_Zq Bundle.tN "SUPPRESSED_SENTINEL" Bundle.listD A s s.heap) (hS : va_S A s.heap H locs) (hsize : ls.size = c.maxLocals)
    (d0 : decode cc pc = .ok (.new ik, 3)) (d3 : decode cc (pc + 3) = .ok (.dup, 1)) (d4 : decode cc (pc + 4) = .ok (.invokespecial ic, 3)) (d7 : decode cc (pc + 7) = .ok (.athrow, 1))
    (hout : ∀ x ∈ c.exceptionTable.toList, covers x (pc + 7) = false)
    (hRframes : names.length + 3 < R.frames) (hRlocals : (rest.map fun v => v.category).sum + (13 * (names.length + 1) + 42) ≤ R.locals) (hRcells : cells + 1 ≤ R.cells) (hRslots : slots + 6 ≤ R.slots) (hlocks : meth.locks = false)
    (hx : ∀ t : State, s.vm.Alike t.vm → H.size ≤ t.heap.size → (∀ q : Nat, q < H.size → t.heap[q]? = H[q]?) → XC cls s t)
    (hf : ∀ z ∈ locs, free z.base) (hc : cells + 1 ≤ mc) (hs : slots + 6 ≤ ms) :
    W p l e R s m args below meth c H locs cells slots (vx_MQ below Qc XC args s mc ms free) (F0 m pc ls rest) := by
  intro T hT X
  have htr : e.platform.stackTraces = false := (show e.platform.stackTraces = l.stackTraces by rw [X.admits.platform]).trans hl
  have Y := vx_rebase X (R' := { frames := R.frames, locals := R.locals, cells := 1, slots := 6 }) (Nat.le_refl _) (Nat.le_refl _) hRcells hRslots
  obtain ⟨s', hA⟩ : ∃ z, z = (T.setVm s.vm).setFrames (.invoking m args :: below) := ⟨_, rfl⟩
  rw [← hA] at Y
  have hvm : s'.vm = s.vm := by rw [hA]; rfl
  have hhp : s'.heap = H := by rw [hA]; exact hT
  have hW0 : s.WarmedH s'.vm := by rw [hvm]; exact State.WarmedH.refl s
  have hat' : ∀ w ∈ vx_at0 own ic cls names, w.before args s' = true := fun w hw => vx_ot_at hW0 hvm.symm (hgood w (List.mem_cons_of_mem _ (List.mem_cons_of_mem _ hw))) (hat w hw)
  have hk' : (Cond.classLink own ik cls).before args s' = true := vx_ot_at hW0 hvm.symm (hgood _ List.mem_cons_self) hk
  have hini' : (Cond.initialized cls).before args s' = true := vx_ot_at hW0 hvm.symm (hgood _ (List.mem_cons_of_mem _ List.mem_cons_self)) hini
  have hU' : vx_Zq Bundle.tN "UNASSIGNED_STACK" Bundle.steD A s' s'.heap := by rw [hhp]; exact vx_Zq.moved hW0.alike (hU.kept hS.2.1)
  have hN' : vx_Zq Bundle.tN "SUPPRESSED_SENTINEL" Bundle.listD A s' s'.heap := by rw [hhp]; exact vx_Zq.moved hW0.alike (hN.kept hS.2.1)
  have h : ∀ w ∈ Bundle.ownAtoms0 own ic cls names, w.before args s' = true := vx_own hat' (vx_isRefq hU'.1) (vx_isRefq hN'.1) hU'.2.word hN'.2.word
  have hown' : s'.vm.findClass own = some m.cls := by rw [hvm]; exact hown
  have hins : (Cond.instantiable cls 6).before args s' = true := h _ (by simp [Bundle.ownAtoms0])
  obtain ⟨vm₁, cX, kX, hfX, hkX, -, -, X₁, st1⟩ := Y.newCold hexec (own := own) (C := cls) (index := ik) (n := 6) hown' hk' hins hini'
    (g := F0 m pc ls rest) rfl (by rw [hb]; exact d0) (Nat.le_refl _) (Nat.le_refl _)
  generalize hT1 : (T.setVm vm₁).pushCell { cls := cX, slots := kX.instanceTypes.map defaultValue, vm := .none } = T1 at X₁ st1
  have hcat : (Value.ref T.heap.size).category = 1 := rfl
  have hcellA : T1.heap[T.heap.size]? = some (freshCell cX kX) := by rw [← hT1]; exact State.heap_pushCell_size _ _
  have d3' : decode c.code (pc + 3) = .ok (.dup, 1) := by rw [hb]; exact d3
  obtain ⟨U, hsteps, hrun, hend, hW, hsame, ce, hce, hO⟩ := X₁.ctorThrow0 hexec htr (own := own) (cls := cls) (names := names) (ic := ic) hown' hcls hnames h (fun x hx => nomatch hx) hfX hkX hcellA (by rw [hhp, hT]; exact Nat.le_refl _)
    (g := { method := m, pc := pc + 4, locals := ls, stack := .ref T.heap.size :: .ref T.heap.size :: rest, locked := none }) rfl hsize rfl rfl (rest := rest) rfl
    (by rw [hb]; exact d4) (by rw [hb]; exact d7) hout hRframes (by simp only [List.map_cons, List.sum_cons, hcat]; omega) hlocks
  obtain ⟨f1, f2⟩ := vx_frame hsame
  rw [hhp] at f1 f2
  have hWs : s.WarmedH U.vm := State.WarmedH.trans hW0 hW
  have hcl : s.vm.findClass cls = some ce.cls := by
    have h9 := hO.cls
    rw [hvm] at h9
    exact h9
  have hall : s.sameButNew ({ U with vm := s.vm } : State) locs mc ms := by
    subst hA
    obtain ⟨e1, e2⟩ := hsame
    rw [State.setFrames_setFrames] at e1
    have h2 : (T.setVm s.vm).sameButNew ({ U with vm := s.vm } : State) [] (0 + 1) (0 + 6) := ⟨e1, e2⟩
    have h3 := X.same.trans h2
    rw [List.append_nil] at h3
    exact h3.mono hc hs
  refine ⟨U, ?_, .threw T.heap.size, hrun, hend, Or.inr ⟨T.heap.size, rfl, cls, ce, locs, hx U hWs.alike f1 (fun q hq => f2 q hq (fun z hz => nomatch hz)), hce, hO.vm, hcl, hWs, hall, hf⟩⟩
  refine st1 _ ?_
  show Steps p.tables e below (T1.setTop { method := m, pc := pc + 3, locals := ls, stack := .ref T.heap.size :: rest, locked := none }) _
  jvm_step X₁.here [X₁.here.top, hexec, d3', Value.category]
  exact hsteps
/-- 'throw new E("text")': new; dup; ldc; invokespecial; athrow -/
theorem vx_throwS {cc : ByteArray} {pc : Nat} (hexec : p.tables.exec = Jvm.exec) (hb : c.code = cc) (hl : l.stackTraces = false) {own cls text : String} {names : List String} {ik is ic mc ms sa : Nat} {A : Nat → Prop}
    (hown : s.vm.findClass own = some m.cls) (hcls : Bundle.fit cls = true) (hnames : ∀ n ∈ names, Bundle.fit n = true)
    (hk : (Cond.classLink own ik cls).before args s = true) (hini : (Cond.initialized cls).before args s = true) (hstr : vk_R own is text sa s) (hat : ∀ w ∈ vx_atS own ic cls names, w.before args s = true)
    (hgood : ∀ w ∈ Cond.classLink own ik cls :: Cond.initialized cls :: vx_atS own ic cls names, vx_ot w = true)
    (hU : vx_Zq Bundle.tN "UNASSIGNED_STACK" Bundle.steD A s s.heap) (hN : vx_Zq Bundle.tN "SUPPRESSED_SENTINEL" Bundle.listD A s s.heap) (hS : va_S A s.heap H locs) (hsize : ls.size = c.maxLocals)
    (d0 : decode cc pc = .ok (.new ik, 3)) (d3 : decode cc (pc + 3) = .ok (.dup, 1)) (d4 : decode cc (pc + 4) = .ok (.ldc is, 2)) (d6 : decode cc (pc + 6) = .ok (.invokespecial ic, 3)) (d9 : decode cc (pc + 9) = .ok (.athrow, 1))
    (hout : ∀ x ∈ c.exceptionTable.toList, covers x (pc + 9) = false)
    (hRframes : names.length + 3 < R.frames) (hRlocals : (rest.map fun v => v.category).sum + (13 * (names.length + 1) + 43) ≤ R.locals) (hRcells : cells + 1 ≤ R.cells) (hRslots : slots + 6 ≤ R.slots) (hlocks : meth.locks = false)
    (hx : ∀ t : State, s.vm.Alike t.vm → H.size ≤ t.heap.size → (∀ q : Nat, q < H.size → t.heap[q]? = H[q]?) → XC cls s t)
    (hf : ∀ z ∈ locs, free z.base) (hc : cells + 1 ≤ mc) (hs : slots + 6 ≤ ms) :
    W p l e R s m args below meth c H locs cells slots (vx_MQ below Qc XC args s mc ms free) (F0 m pc ls rest) := by
  intro T hT X
  have htr : e.platform.stackTraces = false := (show e.platform.stackTraces = l.stackTraces by rw [X.admits.platform]).trans hl
  have Y := vx_rebase X (R' := { frames := R.frames, locals := R.locals, cells := 1, slots := 6 }) (Nat.le_refl _) (Nat.le_refl _) hRcells hRslots
  obtain ⟨s', hA⟩ : ∃ z, z = (T.setVm s.vm).setFrames (.invoking m args :: below) := ⟨_, rfl⟩
  rw [← hA] at Y
  have hvm : s'.vm = s.vm := by rw [hA]; rfl
  have hhp : s'.heap = H := by rw [hA]; exact hT
  have hW0 : s.WarmedH s'.vm := by rw [hvm]; exact State.WarmedH.refl s
  have hat' : ∀ w ∈ vx_atS own ic cls names, w.before args s' = true := fun w hw => vx_ot_at hW0 hvm.symm (hgood w (List.mem_cons_of_mem _ (List.mem_cons_of_mem _ hw))) (hat w hw)
  have hk' : (Cond.classLink own ik cls).before args s' = true := vx_ot_at hW0 hvm.symm (hgood _ List.mem_cons_self) hk
  have hini' : (Cond.initialized cls).before args s' = true := vx_ot_at hW0 hvm.symm (hgood _ (List.mem_cons_of_mem _ List.mem_cons_self)) hini
  have hU' : vx_Zq Bundle.tN "UNASSIGNED_STACK" Bundle.steD A s' s'.heap := by rw [hhp]; exact vx_Zq.moved hW0.alike (hU.kept hS.2.1)
  have hN' : vx_Zq Bundle.tN "SUPPRESSED_SENTINEL" Bundle.listD A s' s'.heap := by rw [hhp]; exact vx_Zq.moved hW0.alike (hN.kept hS.2.1)
  have h : ∀ w ∈ Bundle.ownAtoms own ic cls names, w.before args s' = true := vx_own hat' (vx_isRefq hU'.1) (vx_isRefq hN'.1) hU'.2.word hN'.2.word
  have hown' : s'.vm.findClass own = some m.cls := by rw [hvm]; exact hown
  have hins : (Cond.instantiable cls 6).before args s' = true := h _ (by simp [Bundle.ownAtoms])
  obtain ⟨vm₁, cX, kX, hfX, hkX, -, -, X₁, st1⟩ := Y.newCold hexec (own := own) (C := cls) (index := ik) (n := 6) hown' hk' hins hini'
    (g := F0 m pc ls rest) rfl (by rw [hb]; exact d0) (Nat.le_refl _) (Nat.le_refl _)
  generalize hT1 : (T.setVm vm₁).pushCell { cls := cX, slots := kX.instanceTypes.map defaultValue, vm := .none } = T1 at X₁ st1
  have hcat : (Value.ref T.heap.size).category = 1 := rfl
  have hcellA : T1.heap[T.heap.size]? = some (freshCell cX kX) := by rw [← hT1]; exact State.heap_pushCell_size _ _
  have d3' : decode c.code (pc + 3) = .ok (.dup, 1) := by rw [hb]; exact d3
  have d4' : decode c.code (pc + 4) = .ok (.ldc is, 2) := by rw [hb]; exact d4
  have hstr' : vk_R own is text sa s' := vk_R.warm hW0 hstr
  obtain ⟨U, hsteps, hrun, hend, hW, hsame, ce, hce, hO⟩ := X₁.ctorThrowS hexec htr (own := own) (cls := cls) (names := names) (ic := ic) hown' hcls hnames h (fun x hx => nomatch hx) hfX hkX hcellA (by rw [hhp, hT]; exact Nat.le_refl _) (msg := .ref sa) rfl
    (g := { method := m, pc := pc + 6, locals := ls, stack := .ref sa :: .ref T.heap.size :: .ref T.heap.size :: rest, locked := none }) rfl hsize rfl rfl (rest := rest) rfl
    (by rw [hb]; exact d6) (by rw [hb]; exact d9) hout hRframes (by simp only [List.map_cons, List.sum_cons, hcat]; omega) hlocks
  obtain ⟨f1, f2⟩ := vx_frame hsame
  rw [hhp] at f1 f2
  have hWs : s.WarmedH U.vm := State.WarmedH.trans hW0 hW
  have hcl : s.vm.findClass cls = some ce.cls := by
    have h9 := hO.cls
    rw [hvm] at h9
    exact h9
  have hall : s.sameButNew ({ U with vm := s.vm } : State) locs mc ms := by
    subst hA
    obtain ⟨e1, e2⟩ := hsame
    rw [State.setFrames_setFrames] at e1
    have h2 : (T.setVm s.vm).sameButNew ({ U with vm := s.vm } : State) [] (0 + 1) (0 + 6) := ⟨e1, e2⟩
    have h3 := X.same.trans h2
    rw [List.append_nil] at h3
    exact h3.mono hc hs
  refine ⟨U, ?_, .threw T.heap.size, hrun, hend, Or.inr ⟨T.heap.size, rfl, cls, ce, locs, hx U hWs.alike f1 (fun q hq => f2 q hq (fun z hz => nomatch hz)), hce, hO.vm, hcl, hWs, hall, hf⟩⟩
  refine st1 _ ?_
  show Steps p.tables e below (T1.setTop { method := m, pc := pc + 3, locals := ls, stack := .ref T.heap.size :: rest, locked := none }) _
  jvm_step X₁.here [X₁.here.top, hexec, d3', Value.category]
  exact X₁.ldcString hexec (own := own) (text := text) (index := is) (a := sa) hown' hstr'.1 hstr'.2
    (g := { method := m, pc := pc + 4, locals := ls, stack := .ref T.heap.size :: .ref T.heap.size :: rest, locked := none }) rfl d4' _ hsteps
/-- 'throw new E("text")', the text by a wide index -/
theorem vx_throwSW {cc : ByteArray} {pc : Nat} (hexec : p.tables.exec = Jvm.exec) (hb : c.code = cc) (hl : l.stackTraces = false) {own cls text : String} {names : List String} {ik is ic mc ms sa : Nat} {A : Nat → Prop}
    (hown : s.vm.findClass own = some m.cls) (hcls : Bundle.fit cls = true) (hnames : ∀ n ∈ names, Bundle.fit n = true)
    (hk : (Cond.classLink own ik cls).before args s = true) (hini : (Cond.initialized cls).before args s = true) (hstr : vk_R own is text sa s) (hat : ∀ w ∈ vx_atS own ic cls names, w.before args s = true)
    (hgood : ∀ w ∈ Cond.classLink own ik cls :: Cond.initialized cls :: vx_atS own ic cls names, vx_ot w = true)
    (hU : vx_Zq Bundle.tN "UNASSIGNED_STACK" Bundle.steD A s s.heap) (hN : vx_Zq Bundle.tN "SUPPRESSED_SENTINEL" Bundle.listD A s s.heap) (hS : va_S A s.heap H locs) (hsize : ls.size = c.maxLocals)
    (d0 : decode cc pc = .ok (.new ik, 3)) (d3 : decode cc (pc + 3) = .ok (.dup, 1)) (d4 : decode cc (pc + 4) = .ok (.ldc_w is, 3)) (d7 : decode cc (pc + 7) = .ok (.invokespecial ic, 3)) (d10 : decode cc (pc + 10) = .ok (.athrow, 1))
    (hout : ∀ x ∈ c.exceptionTable.toList, covers x (pc + 10) = false)
    (hRframes : names.length + 3 < R.frames) (hRlocals : (rest.map fun v => v.category).sum + (13 * (names.length + 1) + 43) ≤ R.locals) (hRcells : cells + 1 ≤ R.cells) (hRslots : slots + 6 ≤ R.slots) (hlocks : meth.locks = false)
    (hx : ∀ t : State, s.vm.Alike t.vm → H.size ≤ t.heap.size → (∀ q : Nat, q < H.size → t.heap[q]? = H[q]?) → XC cls s t)
    (hf : ∀ z ∈ locs, free z.base) (hc : cells + 1 ≤ mc) (hs : slots + 6 ≤ ms) :
    W p l e R s m args below meth c H locs cells slots (vx_MQ below Qc XC args s mc ms free) (F0 m pc ls rest) := by
  intro T hT X
  have htr : e.platform.stackTraces = false := (show e.platform.stackTraces = l.stackTraces by rw [X.admits.platform]).trans hl
  have Y := vx_rebase X (R' := { frames := R.frames, locals := R.locals, cells := 1, slots := 6 }) (Nat.le_refl _) (Nat.le_refl _) hRcells hRslots
  obtain ⟨s', hA⟩ : ∃ z, z = (T.setVm s.vm).setFrames (.invoking m args :: below) := ⟨_, rfl⟩
  rw [← hA] at Y
  have hvm : s'.vm = s.vm := by rw [hA]; rfl
  have hhp : s'.heap = H := by rw [hA]; exact hT
  have hW0 : s.WarmedH s'.vm := by rw [hvm]; exact State.WarmedH.refl s
  have hat' : ∀ w ∈ vx_atS own ic cls names, w.before args s' = true := fun w hw => vx_ot_at hW0 hvm.symm (hgood w (List.mem_cons_of_mem _ (List.mem_cons_of_mem _ hw))) (hat w hw)
  have hk' : (Cond.classLink own ik cls).before args s' = true := vx_ot_at hW0 hvm.symm (hgood _ List.mem_cons_self) hk
  have hini' : (Cond.initialized cls).before args s' = true := vx_ot_at hW0 hvm.symm (hgood _ (List.mem_cons_of_mem _ List.mem_cons_self)) hini
  have hU' : vx_Zq Bundle.tN "UNASSIGNED_STACK" Bundle.steD A s' s'.heap := by rw [hhp]; exact vx_Zq.moved hW0.alike (hU.kept hS.2.1)
  have hN' : vx_Zq Bundle.tN "SUPPRESSED_SENTINEL" Bundle.listD A s' s'.heap := by rw [hhp]; exact vx_Zq.moved hW0.alike (hN.kept hS.2.1)
  have h : ∀ w ∈ Bundle.ownAtoms own ic cls names, w.before args s' = true := vx_own hat' (vx_isRefq hU'.1) (vx_isRefq hN'.1) hU'.2.word hN'.2.word
  have hown' : s'.vm.findClass own = some m.cls := by rw [hvm]; exact hown
  have hins : (Cond.instantiable cls 6).before args s' = true := h _ (by simp [Bundle.ownAtoms])
  obtain ⟨vm₁, cX, kX, hfX, hkX, -, -, X₁, st1⟩ := Y.newCold hexec (own := own) (C := cls) (index := ik) (n := 6) hown' hk' hins hini'
    (g := F0 m pc ls rest) rfl (by rw [hb]; exact d0) (Nat.le_refl _) (Nat.le_refl _)
  generalize hT1 : (T.setVm vm₁).pushCell { cls := cX, slots := kX.instanceTypes.map defaultValue, vm := .none } = T1 at X₁ st1
  have hcat : (Value.ref T.heap.size).category = 1 := rfl
  have hcellA : T1.heap[T.heap.size]? = some (freshCell cX kX) := by rw [← hT1]; exact State.heap_pushCell_size _ _
  have d3' : decode c.code (pc + 3) = .ok (.dup, 1) := by rw [hb]; exact d3
  have d4' : decode c.code (pc + 4) = .ok (.ldc_w is, 3) := by rw [hb]; exact d4
  have hstr' : vk_R own is text sa s' := vk_R.warm hW0 hstr
  obtain ⟨U, hsteps, hrun, hend, hW, hsame, ce, hce, hO⟩ := X₁.ctorThrowS hexec htr (own := own) (cls := cls) (names := names) (ic := ic) hown' hcls hnames h (fun x hx => nomatch hx) hfX hkX hcellA (by rw [hhp, hT]; exact Nat.le_refl _) (msg := .ref sa) rfl
    (g := { method := m, pc := pc + 7, locals := ls, stack := .ref sa :: .ref T.heap.size :: .ref T.heap.size :: rest, locked := none }) rfl hsize rfl rfl (rest := rest) rfl
    (by rw [hb]; exact d7) (by rw [hb]; exact d10) hout hRframes (by simp only [List.map_cons, List.sum_cons, hcat]; omega) hlocks
  obtain ⟨f1, f2⟩ := vx_frame hsame
  rw [hhp] at f1 f2
  have hWs : s.WarmedH U.vm := State.WarmedH.trans hW0 hW
  have hcl : s.vm.findClass cls = some ce.cls := by
    have h9 := hO.cls
    rw [hvm] at h9
    exact h9
  have hall : s.sameButNew ({ U with vm := s.vm } : State) locs mc ms := by
    subst hA
    obtain ⟨e1, e2⟩ := hsame
    rw [State.setFrames_setFrames] at e1
    have h2 : (T.setVm s.vm).sameButNew ({ U with vm := s.vm } : State) [] (0 + 1) (0 + 6) := ⟨e1, e2⟩
    have h3 := X.same.trans h2
    rw [List.append_nil] at h3
    exact h3.mono hc hs
  refine ⟨U, ?_, .threw T.heap.size, hrun, hend, Or.inr ⟨T.heap.size, rfl, cls, ce, locs, hx U hWs.alike f1 (fun q hq => f2 q hq (fun z hz => nomatch hz)), hce, hO.vm, hcl, hWs, hall, hf⟩⟩
  refine st1 _ ?_
  show Steps p.tables e below (T1.setTop { method := m, pc := pc + 3, locals := ls, stack := .ref T.heap.size :: rest, locked := none }) _
  jvm_step X₁.here [X₁.here.top, hexec, d3', Value.category]
  exact X₁.ldcStringW hexec (own := own) (text := text) (index := is) (a := sa) hown' hstr'.1 hstr'.2
    (g := { method := m, pc := pc + 4, locals := ls, stack := .ref T.heap.size :: .ref T.heap.size :: rest, locked := none }) rfl d4' _ hsteps
end Ends
section Bodies
variable {l : Launch}
theorem vx_ofW {y : MethodName} {ws ws' : List Cond} {rm : Room} {Pc : Array Value → State → Prop} {Qc : Array Value → State → Outcome → State → Prop} {XC : String → State → State → Prop} {mc ms : Nat} {free : Addr → Prop} {cc : ByteArray} {maxL : Nat} {ret : Option FieldType}
    (hy : plainName y.cls = true) (hw : ws = Cond.code y cc maxL ret :: ws')
    (body : ∀ p e s m args below meth c s₁, BodyLoose p l y (headSpec ws rm) cc maxL ret e s m args below meth c s₁ → c.maxLocals = maxL → (∀ x ∈ c.exceptionTable.toList, False) → Pc args s →
      W p l e (headSpec ws rm).room s m args below meth c s.heap [] 0 0 (vx_MQ below Qc XC args s mc ms free) (entryFrame m args maxL)) : vx_Met l y ws rm Pc Qc XC mc ms free := by
  refine MetFree.of_bodyS (code := cc) (maxLocals := maxL) (ret := ret) hy ?_ ?_
  · intro args s m h hn
    obtain ⟨meth, c, h1, h2, h3, h4, h5, h6, -, -⟩ := Cond.code_spec hn (atoms_spec (ws := ws) h _ (by rw [hw]; exact List.mem_cons_self))
    exact ⟨meth, c, h1, h2, h3, h4, h5, h6⟩
  · intro p e s m args below meth c s₁ B hml hP _
    have hh0 : s₁.heap = s.heap := by rw [B.state]; rfl
    have ht : ∀ x ∈ c.exceptionTable.toList, False := by
      obtain ⟨meth9, c9, h1, h2, -, -, -, -, h7, -⟩ := Cond.code_spec B.named (atoms_spec (ws := ws) B.pre _ (by rw [hw]; exact List.mem_cons_self))
      cases Option.some.inj (h1.symm.trans B.method)
      cases Option.some.inj (h2.symm.trans (Stand.of_body B).code)
      intro x hx
      rw [Array.isEmpty_iff.mp h7] at hx
      cases hx
    obtain ⟨t, a1, o, b1, b2, b3⟩ := body p e s m args below meth c s₁ B hml ht hP s₁ hh0 (Stand.of_body B)
    exact ⟨t, o, a1, b1, b2, b3⟩
/-- the table of a body with handlers -/
theorem vx_table {p : Program} {x y : MethodName} {S : Spec} {cc bytes : ByteArray} {maxL maxL' : Nat} {ret ret' : Option FieldType} {e : Env} {s s₁ : State} {m : MethodId} {args : Array Value} {below : List Frame} {meth : Method} {c : Code} {hh : List (Nat × Nat × Nat × Nat)}
    (B : BodyLoose p l y S cc maxL ret e s m args below meth c s₁) (h : (Cond.codeWith y bytes maxL' ret' hh).before args s = true) : c.exceptionTable.toList = tableOf hh := by
  obtain ⟨m9, meth9, c9, hn9, h1, h2, -, -, h6, -⟩ := Cond.codeWith_spec h
  cases Option.some.inj (hn9.symm.trans B.named)
  cases Option.some.inj (h1.symm.trans B.method)
  cases Option.some.inj (h2.symm.trans (Stand.of_body B).code)
  rw [← h6, table_eq]
end Bodies
end VXA
/-! ===== END ===== -/
/-! ===== BEGIN a static call of a method with an exception table ===== -/
section VXS
variable {p : Program} {l : Launch} {e : Env} {R : Room} {s : State} {m : MethodId} {args : Array Value} {below : List Frame} {meth : Method} {c : Code} {T : State} {H : Heap} {locs : List Loc} {cells slots : Nat}
abbrev vx_CSW (R : Room) (s : State) (args : Array Value) (own : String) (index : Nat) (y : MethodName) (bytes : ByteArray) (maxL : Nat) (ret : Option FieldType) (hh : List (Nat × Nat × Nat × Nat)) (ws : List Cond) (rm : Room) (mc ms n : Nat) : Prop :=
  (rm.cells = mc ∧ rm.slots = ms ∧ rm.frames + 1 ≤ R.frames ∧ 8 + (maxL + 11) + rm.locals ≤ R.locals ∧ (∀ w ∈ ws, ∀ (a' : Array Value) (U : State), s.WarmedH U.vm → w.before a' U = true) ∧ Cond.codeWith y bytes maxL ret hh ∈ ws) ∧
  (Cond.codeWith y bytes maxL ret hh).before args s = true ∧ (Cond.initialized y.cls).before args s = true ∧ (y.cls ≠ "java/lang/invoke/MethodHandle" ∧ y.cls ≠ "java/lang/invoke/VarHandle") ∧
  (∀ sig, parseMethodDescriptor y.desc = some sig → n = sig.parameters.length) ∧ (Cond.methodLink own index y).before args s = true ∧ (Cond.static y).before args s = true
theorem vx_cwSW {own : String} {index maxL mc ms : Nat} {y : MethodName} {bytes : ByteArray} {ret : Option FieldType} {hh : List (Nat × Nat × Nat × Nat)} {Ts ws ws' : List Cond} {rm : Room} (n : Nat) (ht : ∀ w ∈ Ts, w.before args s = true) (hT : GoodIn Ts (va_wsS own index y ws)) (hw : ws = Cond.codeWith y bytes maxL ret hh :: ws') (hrc : rm.cells = mc) (hrs : rm.slots = ms)
    (hd : y.cls ≠ "java/lang/invoke/MethodHandle" ∧ y.cls ≠ "java/lang/invoke/VarHandle" ∧ (parseMethodDescriptor y.desc).map (fun d => d.parameters.length) = some n) (hR : rm.frames + 1 ≤ R.frames ∧ 8 + (maxL + 11) + rm.locals ≤ R.locals) :
    vx_CSW R s args own index y bytes maxL ret hh ws rm mc ms n := by
  have ok : ∀ w ∈ va_wsS own index y ws, w.before args s = true := fun w h => ht w (hT w h).1
  have hG : GoodIn Ts ws := fun w h => hT w (by unfold va_wsS; exact List.mem_append_right _ h)
  have hc : Cond.codeWith y bytes maxL ret hh ∈ ws := by rw [hw]; exact List.mem_cons_self
  refine ⟨⟨hrc, hrs, hR.1, hR.2, pay_in ht hG, hc⟩, ht _ (hG _ hc).1, ok _ (by simp [va_wsS]), ⟨hd.1, hd.2.1⟩, fun sig h => ?_, ok _ (by simp [va_wsS]), ok _ (by simp [va_wsS])⟩
  have h2 := hd.2.2
  rw [h] at h2
  exact (Option.some.inj h2).symm
theorem vx_callSW (X : Stand p l e R s m args below meth c T locs cells slots) (hexec : p.tables.exec = Jvm.exec) {own : String} {index : Nat} {y : MethodName} {bytes : ByteArray} {maxL : Nat} {ret : Option FieldType} {hh : List (Nat × Nat × Nat × Nat)}
    (hown : s.vm.findClass own = some m.cls) (hlink : (Cond.methodLink own index y).before args s = true) (hstat : (Cond.static y).before args s = true) (hinit : (Cond.initialized y.cls).before args s = true)
    (hcode : (Cond.codeWith y bytes maxL ret hh).before args s = true) (hy : y.cls ≠ "java/lang/invoke/MethodHandle" ∧ y.cls ≠ "java/lang/invoke/VarHandle")
    {W9 : Nat} {Pre : Pt → Array Value → Prop} {Post : Pt → Array Value → Option Value → Pt → Prop} (hK : Back l R p e below s args y 3 W9 Pre Post)
    {g : JFrame} (hg : g.method = m) (hsize : g.locals.size = c.maxLocals) {argsL rest : List Value} (hlen : ∀ sig, parseMethodDescriptor y.desc = some sig → argsL.length = sig.parameters.length)
    (hstack : g.stack = argsL.reverse ++ rest) (hW : 2 * g.monitorRoom + (rest.map fun v => v.category).sum ≤ W9) (hdg : decode c.code g.pc = .ok (.invokestatic index, 3))
    (hpre : ∀ vm₁, s.WarmedH vm₁ → Pre ⟨T.setVm vm₁, locs, cells, slots⟩ argsL.toArray) :
    ∃ (v : Option Value) (vm₁ : Vm) (B : Pt), s.WarmedH vm₁ ∧ Stand p l e R s m args below meth c B.U B.locs B.cells B.slots ∧ Post ⟨T.setVm vm₁, locs, cells, slots⟩ argsL.toArray v B ∧
      ∀ target, Steps p.tables e below (B.U.setTop { g with pc := g.pc + 3, stack := v.toList ++ rest }) target → Steps p.tables e below (T.setTop g) target := by
  obtain ⟨mk, methM, cM, hnamed, hmethM, -, -, -, -, -, -, hsigM⟩ := Cond.codeWith_spec hcode
  have hstatic : methM.isStatic = true := Cond.static_spec hnamed hmethM hstat
  obtain ⟨kP, hkP, -⟩ := className_of_methodNamed hnamed
  have hinitP : kP.init = .initialized := Cond.initialized_spec (findClass_of_methodNamed hnamed) hkP hinit
  obtain ⟨vm₁, X₁, hstep₁⟩ := X.invokestatic hexec hown hlink hnamed hmethM hstatic hkP hinitP hy (g := g) hg (argsL := argsL) (rest := rest) (hlen _ hsigM) hstack hdg
  obtain ⟨v, B, X', hpost, hsteps⟩ := hK m meth c ⟨T.setVm vm₁, locs, cells, slots⟩ { g with stack := rest } (.invokestatic index) mk argsL.toArray X₁ hg hsize hdg hW (X₁.named hnamed) (hpre vm₁ X₁.warmed)
  exact ⟨v, vm₁, B, X₁.warmed, X', hpost, fun target h => hstep₁ _ fun acts => by rw [doInvoke_state]; exact hsteps.trans h⟩
theorem vx_runSW {y : MethodName} {bytes cc : ByteArray} {maxL nL mc ms n index : Nat} {ret : Option FieldType} {hh : List (Nat × Nat × Nat × Nat)} {ws : List Cond} {rm : Room} {Pc : Array Value → State → Prop} {Qc : Array Value → State → Outcome → State → Prop} {free : Addr → Prop} {Ts : List Cond} {own : String} {As rest : List Value} {g : JFrame}
    (S : CallFix p m c cc nL s args Ts own) (hM : Met l y ws rm Pc Qc mc ms free) (cw : vx_CSW R s args own index y bytes maxL ret hh ws rm mc ms n) (hp : PreS s H Pc As)
    (hg : g.method = m) (hn : As.length = n) (hsize : g.locals.size = nL) (hstack : g.stack = As.reverse ++ rest) (hW : 2 * g.monitorRoom + (rest.map fun v => v.category).sum ≤ 8) (hdg : decode cc g.pc = .ok (.invokestatic index, 3)) (hf : cells + mc ≤ R.cells ∧ slots + ms ≤ R.slots) :
    va_Run p l e R s m args below meth c H locs cells slots mc ms g rest (Qc As.toArray) (free) := by
  obtain ⟨⟨hrc, hrs, hfr, hlo, hws, hcw⟩, hcode, hini, hy, hlen, hl, hstt⟩ := cw
  have hK : Back l R p e below s args y 3 8 (PreOf R mc ms Pc) (PostOf Qc mc ms free) := va_backW (hh := hh) (bytes := bytes) (maxL := maxL) (ret := ret) hM hp.1 hrc hrs hfr hlo hws hcw (fun a' U hW => word_at hW (Or.inl (by first | rfl | simp [Cond.onTables, Cond.keeps, Cond.steady])) hini)
  obtain ⟨hx, hb, hml, ho, -⟩ := S
  intro T hT X
  obtain ⟨v, vm₁, ⟨U', l2, c2, s2⟩, hW₁, X', ⟨g', mk, t, L, e1, e2, hq, h1, hL, h2, h3⟩, st⟩ := vx_callSW X hx (hh := hh) (bytes := bytes) (maxL := maxL) (ret := ret) ho hl hstt hini hcode hy hK hg (hsize.trans hml.symm) (argsL := As) (rest := rest) (fun sig h => hn.trans (hlen sig h)) hstack hW (by rw [hb]; exact hdg)
    (fun vm₁ hW₁ => ⟨hf.1, hf.2, hp.2 (T.setVm vm₁) hT hW₁⟩)
  dsimp only [Pt.U, Pt.locs, Pt.cells, Pt.slots] at X' e1 e2 h1 h2 h3 st
  subst h1; subst h2; subst h3
  exact ⟨v, (T.setVm vm₁).calling g' mk As.toArray, t, U', L, hT, X', hL, e1, e2, hq, st⟩
/-- a thing of a world lies in the heap -/
theorem vx_lt {D : va_G} {cl : List vw_C} {ws : va_W} {H1 : Heap} (h : va_P D cl ws H1) {k : Nat} {q : Nat × va_E} (hk : ws[k]? = some q) : q.1 < H1.size := (h k q hk).lt
end VXS
/-! ===== END ===== -/
/-! ===== BEGIN methods with a table of their own: called by a name, returning or throwing ===== -/
section VXH
/-! vx_backW, vx_callVX, vx_callSX, vx_callVW, vx_runVW, vx_runVX, vx_runSX, vx_ofWH follow the same proofs as their sisters above (Free/Laws.lean, Shelf42/LK1.lean); vx_outP calls Shelf42/NT130.lean (outThrough). -/
section
variable {l : Launch} {R : Room} {p : Program} {e : Env} {below : List Frame} {s : State} {sargs : Array Value} {y : MethodName} {len W9 : Nat}
theorem vx_backW {ws : List Cond} {rm : Room} {Pc : Array Value → State → Prop} {Qc : Array Value → State → Outcome → State → Prop} {XC : String → State → State → Prop} {mc ms : Nat} {free : Addr → Prop} {bytes : ByteArray} {maxL : Nat} {ret : Option FieldType} {hh : List (Nat × Nat × Nat × Nat)}
    (hM : vx_Met l y ws rm Pc Qc XC mc ms free) (hblind : FrameBlind Pc) (hrc : rm.cells = mc) (hrs : rm.slots = ms)
    (hframes : rm.frames + 1 ≤ R.frames) (hlocals : W9 + (maxL + 11) + rm.locals ≤ R.locals)
    (hws : ∀ w ∈ ws, ∀ a' U, s.WarmedH U.vm → w.before a' U = true) (hcode : Cond.codeWith y bytes maxL ret hh ∈ ws) (hinit : ∀ a' U, s.WarmedH U.vm → (Cond.initialized y.cls).before a' U = true) :
    vx_Back l R p e below s sargs y len W9 (PreOf R mc ms Pc) (PostOf Qc mc ms free) (vx_Post XC mc ms free) := by
  intro m meth c A g ig mk a X hg hsize hdg hW hn hp
  have h1 : (headSpec ws rm).pre.before a A.U = true := atoms_intro fun w hw => hws w hw _ _ X.warmed
  have h2 : (Cond.codeWith y bytes maxL ret hh).before a A.U = true := hws _ hcode _ _ X.warmed
  have h3 : (Cond.initialized y.cls).before a A.U = true := hinit _ _ X.warmed
  have h4 : A.cells + (headSpec ws rm).room.cells ≤ R.cells := by rw [show (headSpec ws rm).room.cells = mc from hrc]; exact hp.1
  have h5 : A.slots + (headSpec ws rm).room.slots ≤ R.slots := by rw [show (headSpec ws rm).room.slots = ms from hrs]; exact hp.2.1
  have hPc : Pc a (A.U.calling g mk a) := hblind _ _ _ _ hp.2.2
  obtain ⟨U, Ls, c0, s0⟩ := A
  dsimp only [Pt.U, Pt.locs, Pt.cells, Pt.slots] at h1 h2 h3 h4 h5 X hn hPc ⊢
  obtain ⟨m9, methY, cY, hn9, hmY, hcY, -, hlY, -⟩ := Cond.codeWith_spec h2
  cases Option.some.inj (hn9.symm.trans hn)
  obtain ⟨kY, hkY, -⟩ := className_of_methodNamed hn
  have hinitY : kY.init = .initialized := Cond.initialized_spec (findClass_of_methodNamed hn) hkY h3
  have h : At U g.method c below := by rw [hg]; exact X.here
  have hlocals9 : W9 + (maxL + 11) + (headSpec ws rm).room.locals ≤ R.locals := hlocals
  have happ : (headSpec ws rm).appliesLoose y e.platform (U.calling g mk a) = true :=
    Spec.appliesLoose_calling (g := g) h hdg hn hkY hinitY
      (X.room_calling (g := g) (R' := (headSpec ws rm).room) hsize hmY hcY hframes (by rw [hlY]; omega) h4 h5) h1
  obtain ⟨mid, hmid⟩ := h.above
  have hfr : (U.setTop g).frames = (.java g :: mid) ++ below := by rw [State.frames_setTop' g h.top, hmid]; rfl
  obtain ⟨o, s₂, hsteps, -, hend, hq⟩ := Steps.callFree hM p X.admits X.cas X.clock (acts := []) hfr happ hPc trivial
  have hq' : vx_Q Qc XC mc ms free a (U.calling g mk a) o s₂ := hq
  rw [State.frames_setTop' g h.top] at hend
  obtain ⟨g₀, hg0⟩ := Option.isSome_iff_exists.mp h.top
  obtain ⟨r, hr⟩ := State.topJava?_eq_some.mp hg0
  have hr' : (({ U with heap := s₂.heap, slotsUsed := s₂.slotsUsed } : State).setVm s₂.vm).frames = .java g₀ :: r := hr
  rcases hq' with ⟨hqc, L, hfe, hL⟩ | ⟨q, rfl, E, ce, L, hx, hce, hcv, hcl, hW₂, hsm, hL⟩
  · obtain ⟨⟨v, rfl⟩, hW₂, e2, q2, q3, q4, q5, q6⟩ := id hfe
    have e3 : s₂ = ({ (U.calling g mk a).setFrames s₂.frames with heap := s₂.heap, slotsUsed := s₂.slotsUsed } : State).setVm s₂.vm := by
      have : s₂ = ({ s₂ with vm := (U.calling g mk a).vm } : State).setVm s₂.vm := rfl
      rw [e2] at this
      exact this
    obtain ⟨c₂, i₂, len₂, hc₂, hd₂, hf₂⟩ := hend
    have hW' : U.WarmedH s₂.vm := hW₂
    have hcc : c₂ = c := by
      have h1 : s₂.code? g.method = U.code? g.method := by
        rw [State.code?_eq, State.code?_eq, hW'.alike.method?]
      exact Option.some.inj (hc₂.symm.trans (h1.trans h.code))
    subst hcc
    have hlen : len₂ = len := by rw [hdg] at hd₂; cases hd₂; rfl
    subst hlen
    have hs₂ : s₂ = (({ U with heap := s₂.heap, slotsUsed := s₂.slotsUsed } : State).setVm s₂.vm).setTop { g with pc := g.pc + len₂, stack := v.toList ++ g.stack } := by
      refine e3.trans ?_
      rw [hf₂, State.calling_eq h.top, State.setFrames_setFrames, State.setTop_of_frames _ hr', hr]
      rfl
    have hsame : U.sameButNew ({ U with heap := s₂.heap, slotsUsed := s₂.slotsUsed } : State) L mc ms := by
      refine ⟨?_, q2, q3, q4, q5, q6⟩
      obtain ⟨t, ht, -⟩ := State.frames_cons hr
      show ({ U with heap := s₂.heap, slotsUsed := s₂.slotsUsed } : State) = { U.setFrames U.frames with heap := s₂.heap, slotsUsed := s₂.slotsUsed }
      rw [State.setFrames_self ht]
    subst hg
    refine Or.inl ⟨v, ⟨(({ U with heap := s₂.heap, slotsUsed := s₂.slotsUsed } : State).setVm s₂.vm), Ls ++ L, c0 + mc, s0 + ms⟩,
      ⟨X.admits, X.cas, X.clock, X.frames, X.room, X.hears, X.method, X.code, (X.here.setHeapUsed s₂.heap s₂.slotsUsed).setVm hW'.alike, X.tail, State.WarmedH.trans X.warmed hW', X.limits, X.bytes, X.same.trans (hsame.setVm s.vm)⟩,
      ⟨g, mk, s₂, L, rfl, rfl, hqc, rfl, hL, rfl, rfl⟩, ?_⟩
    show Steps p.tables e below _ ((({ U with heap := s₂.heap, slotsUsed := s₂.slotsUsed } : State).setVm s₂.vm).setTop { g with pc := g.pc + len₂, stack := v.toList ++ g.stack })
    rw [← hs₂]
    exact hsteps
  · obtain ⟨e2, q2, q3, q4, q5, q6⟩ := id hsm
    have e3 : s₂ = ({ (U.calling g mk a).setFrames s₂.frames with heap := s₂.heap, slotsUsed := s₂.slotsUsed } : State).setVm s₂.vm := by
      have : s₂ = ({ s₂ with vm := (U.calling g mk a).vm } : State).setVm s₂.vm := rfl
      rw [e2] at this
      exact this
    have hf₂ : s₂.frames = .throwing q :: .java g :: U.frames.tail := hend
    have hW' : U.WarmedH s₂.vm := hW₂
    have hs₂ : s₂ = ((({ U with heap := s₂.heap, slotsUsed := s₂.slotsUsed } : State).setVm s₂.vm).setTop g).pushFrame (.throwing q) := by
      refine e3.trans ?_
      rw [hf₂, State.calling_eq h.top, State.setFrames_setFrames, State.pushFrame, State.frames_setTop _ hr', State.setTop_of_frames _ hr', State.setFrames_setFrames, hr]
      rfl
    have hsame : U.sameButNew ({ U with heap := s₂.heap, slotsUsed := s₂.slotsUsed } : State) L mc ms := by
      refine ⟨?_, q2, q3, q4, q5, q6⟩
      obtain ⟨t, ht, -⟩ := State.frames_cons hr
      show ({ U with heap := s₂.heap, slotsUsed := s₂.slotsUsed } : State) = { U.setFrames U.frames with heap := s₂.heap, slotsUsed := s₂.slotsUsed }
      rw [State.setFrames_self ht]
    subst hg
    refine Or.inr ⟨q, ⟨(({ U with heap := s₂.heap, slotsUsed := s₂.slotsUsed } : State).setVm s₂.vm), Ls ++ L, c0 + mc, s0 + ms⟩,
      ⟨X.admits, X.cas, X.clock, X.frames, X.room, X.hears, X.method, X.code, (X.here.setHeapUsed s₂.heap s₂.slotsUsed).setVm hW'.alike, X.tail, State.WarmedH.trans X.warmed hW', X.limits, X.bytes, X.same.trans (hsame.setVm s.vm)⟩,
      ⟨g, mk, s₂, L, E, ce, rfl, rfl, hx, hce, hcv, hcl, rfl, hL, rfl, rfl⟩, ?_⟩
    show Steps p.tables e below _ (((({ U with heap := s₂.heap, slotsUsed := s₂.slotsUsed } : State).setVm s₂.vm).setTop g).pushFrame (.throwing q))
    rw [← hs₂]
    exact hsteps
end
variable {p : Program} {l : Launch} {e : Env} {R : Room} {s : State} {m : MethodId} {args : Array Value} {below : List Frame} {meth : Method} {c : Code} {T : State} {H : Heap} {locs : List Loc} {cells slots : Nat}
theorem vx_callVX (X : Stand p l e R s m args below meth c T locs cells slots) (hexec : p.tables.exec = Jvm.exec) {own C : String} {index : Nat} {y : MethodName} {bytes : ByteArray} {maxL : Nat} {ret : Option FieldType} {hh : List (Nat × Nat × Nat × Nat)}
    (hown : s.vm.findClass own = some m.cls) (hlink : (Cond.methodLink own index y).before args s = true) (hinst : (Cond.instanceMethod y).before args s = true) (hsel : (Cond.selects C y y).before args s = true)
    (hcode : (Cond.codeWith y bytes maxL ret hh).before args s = true) (hy : y.cls ≠ "java/lang/invoke/MethodHandle" ∧ y.cls ≠ "java/lang/invoke/VarHandle")
    {W9 : Nat} {Pre : Pt → Array Value → Prop} {Post : Pt → Array Value → Option Value → Pt → Prop} {PostX : Pt → Array Value → Addr → Pt → Prop} (hK : vx_Back l R p e below s args y 3 W9 Pre Post PostX)
    {b : Addr} {cellB : Cell} (hcell : T.heap[b]? = some cellB) (hobj : cellB.vm.isStatics = false) (hcls : s.vm.findClass C = some cellB.cls)
    {g : JFrame} (hg : g.method = m) (hsize : g.locals.size = c.maxLocals) {argsL rest : List Value} (hlen : ∀ sig, parseMethodDescriptor y.desc = some sig → argsL.length = sig.parameters.length)
    (hstack : g.stack = argsL.reverse ++ .ref b :: rest) (hW : 2 * g.monitorRoom + (rest.map fun v => v.category).sum ≤ W9) (hdg : decode c.code g.pc = .ok (.invokevirtual index, 3))
    (hpre : ∀ vm₁, s.WarmedH vm₁ → Pre ⟨T.setVm vm₁, locs, cells, slots⟩ (Value.ref b :: argsL).toArray) :
    (∃ (v : Option Value) (vm₁ : Vm) (B : Pt), s.WarmedH vm₁ ∧ Stand p l e R s m args below meth c B.U B.locs B.cells B.slots ∧ Post ⟨T.setVm vm₁, locs, cells, slots⟩ (Value.ref b :: argsL).toArray v B ∧
      ∀ target, Steps p.tables e below (B.U.setTop { g with pc := g.pc + 3, stack := v.toList ++ rest }) target → Steps p.tables e below (T.setTop g) target) ∨
    (∃ (q : Addr) (vm₁ : Vm) (B : Pt), s.WarmedH vm₁ ∧ Stand p l e R s m args below meth c B.U B.locs B.cells B.slots ∧ PostX ⟨T.setVm vm₁, locs, cells, slots⟩ (Value.ref b :: argsL).toArray q B ∧
      Steps p.tables e below (T.setTop g) ((B.U.setTop { g with stack := rest }).pushFrame (.throwing q))) := by
  obtain ⟨mk, methM, hnamed, hmethM, hstM, habM⟩ := Cond.instanceMethod_spec hinst
  obtain ⟨m8, methM', cM, hn8, hmethM', -, -, -, -, -, -, hsigM⟩ := Cond.codeWith_spec hcode
  cases Option.some.inj (hn8.symm.trans hnamed)
  cases hmethM.symm.trans hmethM'
  obtain ⟨c2, r2, m2, q1, q2, q3, q4, kP, hkP, hkPi⟩ := Cond.selects_spec hsel
  cases hcls.symm.trans q1
  cases (State.methodFound?_of_named hnamed hy).symm.trans q2
  cases hnamed.symm.trans q3
  have hselP : selectMethod e.platform s.vm cellB.cls mk = .method mk := by rw [Launch.admits_selectMethod X.admits]; exact q4
  obtain ⟨vm₁, X₁, hstep₁⟩ := X.invokevirtual hexec hown hlink hnamed hmethM hstM hkP hkPi hy (a := b) (cell := cellB) hcell
    (fun z h => by rw [h] at hobj; cases hobj) hselP hmethM habM hkP hkPi (g := g) hg (argsL := argsL) (rest := rest) (hlen _ hsigM) hstack hdg
  rcases hK m meth c ⟨T.setVm vm₁, locs, cells, slots⟩ { g with stack := rest } (.invokevirtual index) mk (Value.ref b :: argsL).toArray X₁ hg hsize hdg hW (X₁.named hnamed) (hpre vm₁ X₁.warmed) with ⟨v, B, X', hpost, hsteps⟩ | ⟨q, B, X', hpost, hsteps⟩
  · exact Or.inl ⟨v, vm₁, B, X₁.warmed, X', hpost, fun target h => hstep₁ _ fun acts => by rw [doInvoke_state]; exact hsteps.trans h⟩
  · exact Or.inr ⟨q, vm₁, B, X₁.warmed, X', hpost, hstep₁ _ fun acts => by rw [doInvoke_state]; exact hsteps⟩
theorem vx_callSX (X : Stand p l e R s m args below meth c T locs cells slots) (hexec : p.tables.exec = Jvm.exec) {own : String} {index : Nat} {y : MethodName} {bytes : ByteArray} {maxL : Nat} {ret : Option FieldType} {hh : List (Nat × Nat × Nat × Nat)}
    (hown : s.vm.findClass own = some m.cls) (hlink : (Cond.methodLink own index y).before args s = true) (hstat : (Cond.static y).before args s = true) (hinit : (Cond.initialized y.cls).before args s = true)
    (hcode : (Cond.codeWith y bytes maxL ret hh).before args s = true) (hy : y.cls ≠ "java/lang/invoke/MethodHandle" ∧ y.cls ≠ "java/lang/invoke/VarHandle")
    {W9 : Nat} {Pre : Pt → Array Value → Prop} {Post : Pt → Array Value → Option Value → Pt → Prop} {PostX : Pt → Array Value → Addr → Pt → Prop} (hK : vx_Back l R p e below s args y 3 W9 Pre Post PostX)
    {g : JFrame} (hg : g.method = m) (hsize : g.locals.size = c.maxLocals) {argsL rest : List Value} (hlen : ∀ sig, parseMethodDescriptor y.desc = some sig → argsL.length = sig.parameters.length)
    (hstack : g.stack = argsL.reverse ++ rest) (hW : 2 * g.monitorRoom + (rest.map fun v => v.category).sum ≤ W9) (hdg : decode c.code g.pc = .ok (.invokestatic index, 3))
    (hpre : ∀ vm₁, s.WarmedH vm₁ → Pre ⟨T.setVm vm₁, locs, cells, slots⟩ argsL.toArray) :
    (∃ (v : Option Value) (vm₁ : Vm) (B : Pt), s.WarmedH vm₁ ∧ Stand p l e R s m args below meth c B.U B.locs B.cells B.slots ∧ Post ⟨T.setVm vm₁, locs, cells, slots⟩ argsL.toArray v B ∧
      ∀ target, Steps p.tables e below (B.U.setTop { g with pc := g.pc + 3, stack := v.toList ++ rest }) target → Steps p.tables e below (T.setTop g) target) ∨
    (∃ (q : Addr) (vm₁ : Vm) (B : Pt), s.WarmedH vm₁ ∧ Stand p l e R s m args below meth c B.U B.locs B.cells B.slots ∧ PostX ⟨T.setVm vm₁, locs, cells, slots⟩ argsL.toArray q B ∧
      Steps p.tables e below (T.setTop g) ((B.U.setTop { g with stack := rest }).pushFrame (.throwing q))) := by
  obtain ⟨mk, methM, cM, hnamed, hmethM, -, -, -, -, -, -, hsigM⟩ := Cond.codeWith_spec hcode
  have hstatic : methM.isStatic = true := Cond.static_spec hnamed hmethM hstat
  obtain ⟨kP, hkP, -⟩ := className_of_methodNamed hnamed
  have hinitP : kP.init = .initialized := Cond.initialized_spec (findClass_of_methodNamed hnamed) hkP hinit
  obtain ⟨vm₁, X₁, hstep₁⟩ := X.invokestatic hexec hown hlink hnamed hmethM hstatic hkP hinitP hy (g := g) hg (argsL := argsL) (rest := rest) (hlen _ hsigM) hstack hdg
  rcases hK m meth c ⟨T.setVm vm₁, locs, cells, slots⟩ { g with stack := rest } (.invokestatic index) mk argsL.toArray X₁ hg hsize hdg hW (X₁.named hnamed) (hpre vm₁ X₁.warmed) with ⟨v, B, X', hpost, hsteps⟩ | ⟨q, B, X', hpost, hsteps⟩
  · exact Or.inl ⟨v, vm₁, B, X₁.warmed, X', hpost, fun target h => hstep₁ _ fun acts => by rw [doInvoke_state]; exact hsteps.trans h⟩
  · exact Or.inr ⟨q, vm₁, B, X₁.warmed, X', hpost, hstep₁ _ fun acts => by rw [doInvoke_state]; exact hsteps⟩
theorem vx_callVW (X : Stand p l e R s m args below meth c T locs cells slots) (hexec : p.tables.exec = Jvm.exec) {own C : String} {index : Nat} {y : MethodName} {bytes : ByteArray} {maxL : Nat} {ret : Option FieldType} {hh : List (Nat × Nat × Nat × Nat)}
    (hown : s.vm.findClass own = some m.cls) (hlink : (Cond.methodLink own index y).before args s = true) (hinst : (Cond.instanceMethod y).before args s = true) (hsel : (Cond.selects C y y).before args s = true)
    (hcode : (Cond.codeWith y bytes maxL ret hh).before args s = true) (hy : y.cls ≠ "java/lang/invoke/MethodHandle" ∧ y.cls ≠ "java/lang/invoke/VarHandle")
    {W9 : Nat} {Pre : Pt → Array Value → Prop} {Post : Pt → Array Value → Option Value → Pt → Prop} (hK : Back l R p e below s args y 3 W9 Pre Post)
    {b : Addr} {cellB : Cell} (hcell : T.heap[b]? = some cellB) (hobj : cellB.vm.isStatics = false) (hcls : s.vm.findClass C = some cellB.cls)
    {g : JFrame} (hg : g.method = m) (hsize : g.locals.size = c.maxLocals) {argsL rest : List Value} (hlen : ∀ sig, parseMethodDescriptor y.desc = some sig → argsL.length = sig.parameters.length)
    (hstack : g.stack = argsL.reverse ++ .ref b :: rest) (hW : 2 * g.monitorRoom + (rest.map fun v => v.category).sum ≤ W9) (hdg : decode c.code g.pc = .ok (.invokevirtual index, 3))
    (hpre : ∀ vm₁, s.WarmedH vm₁ → Pre ⟨T.setVm vm₁, locs, cells, slots⟩ (Value.ref b :: argsL).toArray) :
    ∃ (v : Option Value) (vm₁ : Vm) (B : Pt), s.WarmedH vm₁ ∧ Stand p l e R s m args below meth c B.U B.locs B.cells B.slots ∧ Post ⟨T.setVm vm₁, locs, cells, slots⟩ (Value.ref b :: argsL).toArray v B ∧
      ∀ target, Steps p.tables e below (B.U.setTop { g with pc := g.pc + 3, stack := v.toList ++ rest }) target → Steps p.tables e below (T.setTop g) target := by
  obtain ⟨mk, methM, hnamed, hmethM, hstM, habM⟩ := Cond.instanceMethod_spec hinst
  obtain ⟨m8, methM', cM, hn8, hmethM', -, -, -, -, -, -, hsigM⟩ := Cond.codeWith_spec hcode
  cases Option.some.inj (hn8.symm.trans hnamed)
  cases hmethM.symm.trans hmethM'
  obtain ⟨c2, r2, m2, q1, q2, q3, q4, kP, hkP, hkPi⟩ := Cond.selects_spec hsel
  cases hcls.symm.trans q1
  cases (State.methodFound?_of_named hnamed hy).symm.trans q2
  cases hnamed.symm.trans q3
  have hselP : selectMethod e.platform s.vm cellB.cls mk = .method mk := by rw [Launch.admits_selectMethod X.admits]; exact q4
  obtain ⟨vm₁, X₁, hstep₁⟩ := X.invokevirtual hexec hown hlink hnamed hmethM hstM hkP hkPi hy (a := b) (cell := cellB) hcell
    (fun z h => by rw [h] at hobj; cases hobj) hselP hmethM habM hkP hkPi (g := g) hg (argsL := argsL) (rest := rest) (hlen _ hsigM) hstack hdg
  obtain ⟨v, B, X', hpost, hsteps⟩ := hK m meth c ⟨T.setVm vm₁, locs, cells, slots⟩ { g with stack := rest } (.invokevirtual index) mk (Value.ref b :: argsL).toArray X₁ hg hsize hdg hW (X₁.named hnamed) (hpre vm₁ X₁.warmed)
  exact ⟨v, vm₁, B, X₁.warmed, X', hpost, fun target h => hstep₁ _ fun acts => by rw [doInvoke_state]; exact hsteps.trans h⟩
abbrev vx_CVW (R : Room) (s : State) (args : Array Value) (own C : String) (index : Nat) (y : MethodName) (bytes : ByteArray) (maxL : Nat) (ret : Option FieldType) (hh : List (Nat × Nat × Nat × Nat)) (ws : List Cond) (rm : Room) (mc ms n : Nat) : Prop :=
  (rm.cells = mc ∧ rm.slots = ms ∧ rm.frames + 1 ≤ R.frames ∧ 8 + (maxL + 11) + rm.locals ≤ R.locals ∧ (∀ w ∈ ws, ∀ (a' : Array Value) (U : State), s.WarmedH U.vm → w.before a' U = true) ∧ Cond.codeWith y bytes maxL ret hh ∈ ws) ∧
  (Cond.codeWith y bytes maxL ret hh).before args s = true ∧ (Cond.initialized y.cls).before args s = true ∧ (y.cls ≠ "java/lang/invoke/MethodHandle" ∧ y.cls ≠ "java/lang/invoke/VarHandle") ∧
  (∀ sig, parseMethodDescriptor y.desc = some sig → n = sig.parameters.length) ∧ (Cond.methodLink own index y).before args s = true ∧ (Cond.instanceMethod y).before args s = true ∧ (Cond.selects C y y).before args s = true
theorem vx_cwVW {own C : String} {index maxL mc ms : Nat} {y : MethodName} {bytes : ByteArray} {ret : Option FieldType} {hh : List (Nat × Nat × Nat × Nat)} {Ts ws ws' : List Cond} {rm : Room} (n : Nat) (ht : ∀ w ∈ Ts, w.before args s = true) (hT : GoodIn Ts (wsV own index C y ws)) (hw : ws = Cond.codeWith y bytes maxL ret hh :: ws') (hrc : rm.cells = mc) (hrs : rm.slots = ms)
    (hd : y.cls = C ∧ y.cls ≠ "java/lang/invoke/MethodHandle" ∧ y.cls ≠ "java/lang/invoke/VarHandle" ∧ (parseMethodDescriptor y.desc).map (fun d => d.parameters.length) = some n) (hR : rm.frames + 1 ≤ R.frames ∧ 8 + (maxL + 11) + rm.locals ≤ R.locals) :
    vx_CVW R s args own C index y bytes maxL ret hh ws rm mc ms n := by
  obtain ⟨hC, hd⟩ := hd
  subst hC
  have ok : ∀ w ∈ wsV own index y.cls y ws, w.before args s = true := fun w h => ht w (hT w h).1
  have hG : GoodIn Ts ws := fun w h => hT w (by unfold wsV; exact List.mem_append_right _ h)
  have hc : Cond.codeWith y bytes maxL ret hh ∈ ws := by rw [hw]; exact List.mem_cons_self
  refine ⟨⟨hrc, hrs, hR.1, hR.2, pay_in ht hG, hc⟩, ht _ (hG _ hc).1, ok _ (by simp [wsV]), ⟨hd.1, hd.2.1⟩, fun sig h => ?_, ok _ (by simp [wsV]), ok _ (by simp [wsV]), ok _ (by simp [wsV])⟩
  have h2 := hd.2.2
  rw [h] at h2
  exact (Option.some.inj h2).symm
theorem vx_runVW {y : MethodName} {bytes cc : ByteArray} {maxL nL mc ms n index : Nat} {ret : Option FieldType} {hh : List (Nat × Nat × Nat × Nat)} {ws : List Cond} {rm : Room} {Pc : Array Value → State → Prop} {Qc : Array Value → State → Outcome → State → Prop} {free : Addr → Prop} {Ts : List Cond} {own C : String} {b : Addr} {As rest : List Value} {g : JFrame}
    (S : CallFix p m c cc nL s args Ts own) (hM : Met l y ws rm Pc Qc mc ms free) (cw : vx_CVW R s args own C index y bytes maxL ret hh ws rm mc ms n) (hp : PreV s H C b Pc As)
    (hg : g.method = m) (hn : As.length = n) (hsize : g.locals.size = nL) (hstack : g.stack = As.reverse ++ .ref b :: rest) (hW : 2 * g.monitorRoom + (rest.map fun v => v.category).sum ≤ 8) (hdg : decode cc g.pc = .ok (.invokevirtual index, 3)) (hf : cells + mc ≤ R.cells ∧ slots + ms ≤ R.slots) :
    va_Run p l e R s m args below meth c H locs cells slots mc ms g rest (Qc (Value.ref b :: As).toArray) free := by
  obtain ⟨⟨hrc, hrs, hfr, hlo, hws, hcw⟩, hcode, hini, hy, hlen, hl, hin, hse⟩ := cw
  have hK : Back l R p e below s args y 3 8 (PreOf R mc ms Pc) (PostOf Qc mc ms free) := va_backW (hh := hh) (bytes := bytes) (maxL := maxL) (ret := ret) hM hp.1 hrc hrs hfr hlo hws hcw (fun a' U hW => word_at hW (Or.inl (by first | rfl | simp [Cond.onTables, Cond.keeps, Cond.steady])) hini)
  obtain ⟨hx, hb, hml, ho, -⟩ := S
  obtain ⟨-, ⟨cellB, hcB, hoB, hclB⟩, hPc⟩ := hp
  intro T hT X
  obtain ⟨v, vm₁, ⟨U', l2, c2, s2⟩, hW₁, X', ⟨g', mk, t, L, e1, e2, hq, h1, hL, h2, h3⟩, st⟩ := vx_callVW X hx (C := C) (hh := hh) (bytes := bytes) (maxL := maxL) (ret := ret) ho hl hin hse hcode hy hK (by rw [hT]; exact hcB) hoB hclB hg (hsize.trans hml.symm) (argsL := As) (rest := rest) (fun sig h => hn.trans (hlen sig h)) hstack hW (by rw [hb]; exact hdg)
    (fun vm₁ hW₁ => ⟨hf.1, hf.2, hPc (T.setVm vm₁) hT hW₁⟩)
  dsimp only [Pt.U, Pt.locs, Pt.cells, Pt.slots] at X' e1 e2 h1 h2 h3 st
  subst h1; subst h2; subst h3
  exact ⟨v, (T.setVm vm₁).calling g' mk (Value.ref b :: As).toArray, t, U', L, hT, X', hL, e1, e2, hq, st⟩
section
variable {y : MethodName} {bytes cc : ByteArray} {maxL nL mc ms n index : Nat} {ret : Option FieldType} {ws : List Cond} {rm : Room} {Pc : Array Value → State → Prop} {Qc : Array Value → State → Outcome → State → Prop} {XC : String → State → State → Prop} {free : Addr → Prop} {Ts : List Cond} {own C : String} {b : Addr} {As rest : List Value} {g : JFrame}
theorem vx_runVX {hh : List (Nat × Nat × Nat × Nat)} (S : CallFix p m c cc nL s args Ts own) (hM : vx_Met l y ws rm Pc Qc XC mc ms free) (cw : vx_CVW R s args own C index y bytes maxL ret hh ws rm mc ms n) (hp : PreV s H C b Pc As)
    (hg : g.method = m) (hn : As.length = n) (hsize : g.locals.size = nL) (hstack : g.stack = As.reverse ++ .ref b :: rest) (hW : 2 * g.monitorRoom + (rest.map fun v => v.category).sum ≤ 8) (hdg : decode cc g.pc = .ok (.invokevirtual index, 3)) (hf : cells + mc ≤ R.cells ∧ slots + ms ≤ R.slots) :
    vx_Run p l e R s m args below meth c H locs cells slots mc ms g rest (Qc (Value.ref b :: As).toArray) XC free := by
  obtain ⟨⟨hrc, hrs, hfr, hlo, hws, hcw⟩, hcode, hini, hy, hlen, hl, hin, hse⟩ := cw
  have hK : vx_Back l R p e below s args y 3 8 (PreOf R mc ms Pc) (PostOf Qc mc ms free) (vx_Post XC mc ms free) := vx_backW (hh := hh) (bytes := bytes) (maxL := maxL) (ret := ret) hM hp.1 hrc hrs hfr hlo hws hcw (fun a' U hW => word_at hW (Or.inl (by first | rfl | simp [Cond.onTables, Cond.keeps, Cond.steady])) hini)
  obtain ⟨hx, hb, hml, ho, -⟩ := S
  obtain ⟨-, ⟨cellB, hcB, hoB, hclB⟩, hPc⟩ := hp
  intro T hT X
  rcases vx_callVX X hx (C := C) (hh := hh) (bytes := bytes) (maxL := maxL) (ret := ret) ho hl hin hse hcode hy hK (by rw [hT]; exact hcB) hoB hclB hg (hsize.trans hml.symm) (argsL := As) (rest := rest) (fun sig h => hn.trans (hlen sig h)) hstack hW (by rw [hb]; exact hdg)
    (fun vm₁ hW₁ => ⟨hf.1, hf.2, hPc (T.setVm vm₁) hT hW₁⟩) with ⟨v, vm₁, ⟨U', l2, c2, s2⟩, hW₁, X', ⟨g', mk, t, L, e1, e2, hq, h1, hL, h2, h3⟩, st⟩ | ⟨q, vm₁, ⟨U', l2, c2, s2⟩, hW₁, X', ⟨g', mk, t, L, E, ce, e1, e2, hq, hce, hcv, hcl, h1, hL, h2, h3⟩, st⟩
  · dsimp only [Pt.U, Pt.locs, Pt.cells, Pt.slots] at X' e1 e2 h1 h2 h3 st
    subst h1; subst h2; subst h3
    exact Or.inl ⟨v, (T.setVm vm₁).calling g' mk (Value.ref b :: As).toArray, t, U', L, hT, X', hL, e1, e2, hq, st⟩
  · dsimp only [Pt.U, Pt.locs, Pt.cells, Pt.slots] at X' e1 e2 h1 h2 h3 st hcl
    subst h1; subst h2; subst h3
    exact Or.inr ⟨q, (T.setVm vm₁).calling g' mk (Value.ref b :: As).toArray, t, U', L, E, ce, hT, X', hL, e1, e2, hq, hce, hcv, vx_cls hW₁ hcl, st⟩
theorem vx_runSX {hh : List (Nat × Nat × Nat × Nat)} (S : CallFix p m c cc nL s args Ts own) (hM : vx_Met l y ws rm Pc Qc XC mc ms free) (cw : vx_CSW R s args own index y bytes maxL ret hh ws rm mc ms n) (hp : PreS s H Pc As)
    (hg : g.method = m) (hn : As.length = n) (hsize : g.locals.size = nL) (hstack : g.stack = As.reverse ++ rest) (hW : 2 * g.monitorRoom + (rest.map fun v => v.category).sum ≤ 8) (hdg : decode cc g.pc = .ok (.invokestatic index, 3)) (hf : cells + mc ≤ R.cells ∧ slots + ms ≤ R.slots) :
    vx_Run p l e R s m args below meth c H locs cells slots mc ms g rest (Qc As.toArray) XC free := by
  obtain ⟨⟨hrc, hrs, hfr, hlo, hws, hcw⟩, hcode, hini, hy, hlen, hl, hstt⟩ := cw
  have hK : vx_Back l R p e below s args y 3 8 (PreOf R mc ms Pc) (PostOf Qc mc ms free) (vx_Post XC mc ms free) := vx_backW (hh := hh) (bytes := bytes) (maxL := maxL) (ret := ret) hM hp.1 hrc hrs hfr hlo hws hcw (fun a' U hW => word_at hW (Or.inl (by first | rfl | simp [Cond.onTables, Cond.keeps, Cond.steady])) hini)
  obtain ⟨hx, hb, hml, ho, -⟩ := S
  intro T hT X
  rcases vx_callSX X hx (hh := hh) (bytes := bytes) (maxL := maxL) (ret := ret) ho hl hstt hini hcode hy hK hg (hsize.trans hml.symm) (argsL := As) (rest := rest) (fun sig h => hn.trans (hlen sig h)) hstack hW (by rw [hb]; exact hdg)
    (fun vm₁ hW₁ => ⟨hf.1, hf.2, hp.2 (T.setVm vm₁) hT hW₁⟩) with ⟨v, vm₁, ⟨U', l2, c2, s2⟩, hW₁, X', ⟨g', mk, t, L, e1, e2, hq, h1, hL, h2, h3⟩, st⟩ | ⟨q, vm₁, ⟨U', l2, c2, s2⟩, hW₁, X', ⟨g', mk, t, L, E, ce, e1, e2, hq, hce, hcv, hcl, h1, hL, h2, h3⟩, st⟩
  · dsimp only [Pt.U, Pt.locs, Pt.cells, Pt.slots] at X' e1 e2 h1 h2 h3 st
    subst h1; subst h2; subst h3
    exact Or.inl ⟨v, (T.setVm vm₁).calling g' mk As.toArray, t, U', L, hT, X', hL, e1, e2, hq, st⟩
  · dsimp only [Pt.U, Pt.locs, Pt.cells, Pt.slots] at X' e1 e2 h1 h2 h3 st hcl
    subst h1; subst h2; subst h3
    exact Or.inr ⟨q, (T.setVm vm₁).calling g' mk As.toArray, t, U', L, E, ce, hT, X', hL, e1, e2, hq, hce, hcv, vx_cls hW₁ hcl, st⟩
end
end VXH
theorem vx_ofWH {l : Launch} {y : MethodName} {ws ws' : List Cond} {rm : Room} {Pc : Array Value → State → Prop} {Qc : Array Value → State → Outcome → State → Prop} {XC : String → State → State → Prop} {mc ms : Nat} {free : Addr → Prop} {cc : ByteArray} {maxL : Nat} {ret : Option FieldType} {hh : List (Nat × Nat × Nat × Nat)}
    (hy : plainName y.cls = true) (hw : ws = Cond.codeWith y cc maxL ret hh :: ws')
    (body : ∀ p e s m args below meth c s₁, BodyLoose p l y (headSpec ws rm) cc maxL ret e s m args below meth c s₁ → c.maxLocals = maxL → Pc args s →
      W p l e (headSpec ws rm).room s m args below meth c s.heap [] 0 0 (vx_MQ below Qc XC args s mc ms free) (entryFrame m args maxL)) : vx_Met l y ws rm Pc Qc XC mc ms free := by
  refine MetFree.of_bodyS (code := cc) (maxLocals := maxL) (ret := ret) hy ?_ ?_
  · intro args s m h hn
    obtain ⟨m9, meth, c, hn9, h1, h2, h3, h4, -, h5, h6, -⟩ := Cond.codeWith_spec (atoms_spec (ws := ws) h _ (by rw [hw]; exact List.mem_cons_self))
    cases hn.symm.trans hn9
    exact ⟨meth, c, h1, h2, h3, h4, h5, h6⟩
  · intro p e s m args below meth c s₁ B hml hP _
    have hh0 : s₁.heap = s.heap := by rw [B.state]; rfl
    obtain ⟨t, a1, o, b1, b2, b3⟩ := body p e s m args below meth c s₁ B hml hP s₁ hh0 (Stand.of_body B)
    exact ⟨t, o, a1, b1, b2, b3⟩
/-! ===== END ===== -/

def vx_atM (X : String) (names : List String) : List Cond := (Bundle.messageArmAtoms X names).filter vx_no
end
section
/-! ===== BEGIN printed: names, fields, word lists, decode rows ===== -/
def RX0 : String := "UpdatePacks$Bank"
def TX0 : u_T := fun k => match k with
  | 0 => ("UpdatePacks$Bank", "octets", "[B", true)
  | 1 => ("UpdatePacks$Bank", "edition", "I", false)
  | _ => ("UpdatePacks$Bank", "packNumber", "I", false)
def tyX0 : Nat → FieldType := fun k => match k with
  | 0 => .array .byte
  | 1 => .int
  | _ => .int
abbrev wsX00 : List Cond := u_ws RX0 TX0 3
theorem nmX0 : ∀ a, a < 3 → ∀ b, b < 3 → a ≠ b → (TX0 a).2.1 ≠ (TX0 b).2.1 := by decide +kernel
theorem tyX0_ok : ∀ k, k < 3 → parseFieldDescriptor (TX0 k).2.2.1 = some (tyX0 k) := by decide +kernel
abbrev cX0_init : ByteArray := prog_2_method_1_code
def yX0_init : MethodName := ⟨RX0, "<init>", "()V"⟩
def RX1 : String := "UpdatePacks$Controller"
def TX1 : u_T := fun k => match k with
  | 0 => ("UpdatePacks$Controller", "hardware", "I", true)
  | 1 => ("UpdatePacks$Controller", "banks", "[LUpdatePacks$Bank;", true)
  | 2 => ("UpdatePacks$Controller", "pack", "LUpdatePacks$Pack;", true)
  | 3 => ("UpdatePacks$Controller", "running", "I", false)
  | 4 => ("UpdatePacks$Controller", "counter", "I", false)
  | 5 => ("UpdatePacks$Controller", "off", "Z", false)
  | 6 => ("UpdatePacks$Controller", "silent", "Z", false)
  | 7 => ("UpdatePacks$Controller", "faultBlock", "I", false)
  | 8 => ("UpdatePacks$Controller", "fault", "B", false)
  | _ => ("UpdatePacks$Controller", "lastPack", "I", false)
def tyX1 : Nat → FieldType := fun k => match k with
  | 0 => .int
  | 1 => .array (.object "UpdatePacks$Bank")
  | 2 => .object "UpdatePacks$Pack"
  | 3 => .int
  | 4 => .int
  | 5 => .boolean
  | 6 => .boolean
  | 7 => .int
  | 8 => .byte
  | _ => .int
abbrev wsX10 : List Cond := u_ws RX1 TX1 10
theorem nmX1 : ∀ a, a < 10 → ∀ b, b < 10 → a ≠ b → (TX1 a).2.1 ≠ (TX1 b).2.1 := by decide +kernel
theorem tyX1_ok : ∀ k, k < 10 → parseFieldDescriptor (TX1 k).2.2.1 = some (tyX1 k) := by decide +kernel
abbrev cX1_init : ByteArray := prog_3_method_1_code
def yX1_init : MethodName := ⟨RX1, "<init>", "(I)V"⟩
abbrev cX1_isAway : ByteArray := prog_3_method_2_code
def yX1_isAway : MethodName := ⟨RX1, "isAway", "()Z"⟩
abbrev cX1_isOfLastSet : ByteArray := prog_3_method_3_code
def yX1_isOfLastSet : MethodName := ⟨RX1, "isOfLastSet", "()Z"⟩
abbrev cX1_runningBank : ByteArray := prog_3_method_4_code
def yX1_runningBank : MethodName := ⟨RX1, "runningBank", "()LUpdatePacks$Bank;"⟩
abbrev cX1_runOtherBank : ByteArray := prog_3_method_5_code
def yX1_runOtherBank : MethodName := ⟨RX1, "runOtherBank", "()V"⟩
abbrev cX1_writeNextBlock : ByteArray := prog_3_method_6_code
def yX1_writeNextBlock : MethodName := ⟨RX1, "writeNextBlock", "()V"⟩
abbrev cX1_completeBank : ByteArray := prog_3_method_7_code
def yX1_completeBank : MethodName := ⟨RX1, "completeBank", "(LUpdatePacks$Bank;)V"⟩
def RX2 : String := "UpdatePacks$Digester"
def TX2 : u_T := fun k => match k with
  | 0 => ("UpdatePacks$Digester", "message", "[B", true)
  | 1 => ("UpdatePacks$Digester", "schedule", "[I", true)
  | _ => ("UpdatePacks$Digester", "result", "[I", true)
def tyX2 : Nat → FieldType := fun k => match k with
  | 0 => .array .byte
  | 1 => .array .int
  | _ => .array .int
abbrev wsX20 : List Cond := u_ws RX2 TX2 3
theorem nmX2 : ∀ a, a < 3 → ∀ b, b < 3 → a ≠ b → (TX2 a).2.1 ≠ (TX2 b).2.1 := by decide +kernel
theorem tyX2_ok : ∀ k, k < 3 → parseFieldDescriptor (TX2 k).2.2.1 = some (tyX2 k) := by decide +kernel
abbrev cX2_init : ByteArray := prog_4_method_1_code
def yX2_init : MethodName := ⟨RX2, "<init>", "()V"⟩
abbrev cX2_resultOctet : ByteArray := prog_4_method_2_code
def yX2_resultOctet : MethodName := ⟨RX2, "resultOctet", "(I)B"⟩
abbrev cX2_digestOf : ByteArray := prog_4_method_3_code
def yX2_digestOf : MethodName := ⟨RX2, "digestOf", "([BI)V"⟩
abbrev cX2_layOut : ByteArray := prog_4_method_4_code
def yX2_layOut : MethodName := ⟨RX2, "layOut", "([BI)I"⟩
abbrev cX2_fillSchedule : ByteArray := prog_4_method_5_code
def yX2_fillSchedule : MethodName := ⟨RX2, "fillSchedule", "(I)V"⟩
abbrev cX2_wordAt : ByteArray := prog_4_method_6_code
def yX2_wordAt : MethodName := ⟨RX2, "wordAt", "(I)I"⟩
abbrev cX2_mix : ByteArray := prog_4_method_7_code
def yX2_mix : MethodName := ⟨RX2, "mix", "()V"⟩
abbrev cX2_spread : ByteArray := prog_4_method_8_code
def yX2_spread : MethodName := ⟨RX2, "spread", "(IIII)I"⟩
abbrev cX2_turns : ByteArray := prog_4_method_9_code
def yX2_turns : MethodName := ⟨RX2, "turns", "(IIII)I"⟩
abbrev cX2_turned : ByteArray := prog_4_method_10_code
def yX2_turned : MethodName := ⟨RX2, "turned", "(II)I"⟩
def RX3 : String := "UpdatePacks$Pack"
def TX3 : u_T := fun k => match k with
  | 0 => ("UpdatePacks$Pack", "octets", "[B", true)
  | 1 => ("UpdatePacks$Pack", "length", "I", false)
  | 2 => ("UpdatePacks$Pack", "number", "I", false)
  | 3 => ("UpdatePacks$Pack", "edition", "I", false)
  | 4 => ("UpdatePacks$Pack", "state", "I", false)
  | 5 => ("UpdatePacks$Pack", "written", "I", false)
  | 6 => ("UpdatePacks$Pack", "set", "I", false)
  | _ => ("UpdatePacks$Pack", "committed", "Z", false)
def tyX3 : Nat → FieldType := fun k => match k with
  | 0 => .array .byte
  | 1 => .int
  | 2 => .int
  | 3 => .int
  | 4 => .int
  | 5 => .int
  | 6 => .int
  | _ => .boolean
abbrev wsX30 : List Cond := u_ws RX3 TX3 8
theorem nmX3 : ∀ a, a < 8 → ∀ b, b < 8 → a ≠ b → (TX3 a).2.1 ≠ (TX3 b).2.1 := by decide +kernel
theorem tyX3_ok : ∀ k, k < 8 → parseFieldDescriptor (TX3 k).2.2.1 = some (tyX3 k) := by decide +kernel
abbrev cX3_init : ByteArray := prog_5_method_1_code
def yX3_init : MethodName := ⟨RX3, "<init>", "()V"⟩
abbrev cX3_begin : ByteArray := prog_5_method_2_code
def yX3_begin : MethodName := ⟨RX3, "begin", "(II[BI)V"⟩
abbrev cX3_isOf : ByteArray := prog_5_method_3_code
def yX3_isOf : MethodName := ⟨RX3, "isOf", "(I)Z"⟩
abbrev cX3_loseBlock : ByteArray := prog_5_method_4_code
def yX3_loseBlock : MethodName := ⟨RX3, "loseBlock", "()V"⟩
def RX4 : String := "UpdatePacks"
def TX4 : u_T := fun k => match k with
  | 0 => ("UpdatePacks", "controllers", "[LUpdatePacks$Controller;", true)
  | 1 => ("UpdatePacks", "controllerCount", "I", false)
  | 2 => ("UpdatePacks", "packageCount", "I", false)
  | 3 => ("UpdatePacks", "octets", "[B", true)
  | 4 => ("UpdatePacks", "octetCount", "I", false)
  | 5 => ("UpdatePacks", "parked", "Z", false)
  | 6 => ("UpdatePacks", "battery", "Z", false)
  | _ => ("UpdatePacks", "digester", "LUpdatePacks$Digester;", true)
def tyX4 : Nat → FieldType := fun k => match k with
  | 0 => .array (.object "UpdatePacks$Controller")
  | 1 => .int
  | 2 => .int
  | 3 => .array .byte
  | 4 => .int
  | 5 => .boolean
  | 6 => .boolean
  | _ => .object "UpdatePacks$Digester"
abbrev wsX40 : List Cond := u_ws RX4 TX4 8
theorem nmX4 : ∀ a, a < 8 → ∀ b, b < 8 → a ≠ b → (TX4 a).2.1 ≠ (TX4 b).2.1 := by decide +kernel
theorem tyX4_ok : ∀ k, k < 8 → parseFieldDescriptor (TX4 k).2.2.1 = some (tyX4 k) := by decide +kernel
abbrev cX4_init : ByteArray := prog_1_method_1_code
def yX4_init : MethodName := ⟨RX4, "<init>", "()V"⟩
abbrev cX4_controller : ByteArray := prog_1_method_2_code
def yX4_controller : MethodName := ⟨RX4, "controller", "(I)I"⟩
abbrev cX4_octet : ByteArray := prog_1_method_3_code
def yX4_octet : MethodName := ⟨RX4, "octet", "(B)V"⟩
abbrev cX4_package0 : ByteArray := prog_1_method_4_code
def yX4_package0 : MethodName := ⟨RX4, "package0", "(IIZ)I"⟩
abbrev cX4_digest : ByteArray := prog_1_method_5_code
def yX4_digest : MethodName := ⟨RX4, "digest", "(I)B"⟩
abbrev cX4_needs : ByteArray := prog_1_method_6_code
def yX4_needs : MethodName := ⟨RX4, "needs", "(II)I"⟩
abbrev cX4_block : ByteArray := prog_1_method_7_code
def yX4_block : MethodName := ⟨RX4, "block", "(IIB)I"⟩
abbrev cX4_condition : ByteArray := prog_1_method_8_code
def yX4_condition : MethodName := ⟨RX4, "condition", "(IZ)I"⟩
abbrev cX4_step : ByteArray := prog_1_method_9_code
def yX4_step : MethodName := ⟨RX4, "step", "(I)I"⟩
abbrev cX4_cut : ByteArray := prog_1_method_10_code
def yX4_cut : MethodName := ⟨RX4, "cut", "()I"⟩
abbrev cX4_boot : ByteArray := prog_1_method_11_code
def yX4_boot : MethodName := ⟨RX4, "boot", "(I)I"⟩
abbrev cX4_bank : ByteArray := prog_1_method_12_code
def yX4_bank : MethodName := ⟨RX4, "bank", "(IIJ)B"⟩
abbrev cX4_joint : ByteArray := prog_1_method_13_code
def yX4_joint : MethodName := ⟨RX4, "joint", "()I"⟩
abbrev cX4_rollback : ByteArray := prog_1_method_14_code
def yX4_rollback : MethodName := ⟨RX4, "rollback", "()I"⟩
abbrev cX4_silent : ByteArray := prog_1_method_15_code
def yX4_silent : MethodName := ⟨RX4, "silent", "(IZ)I"⟩
abbrev cX4_counter : ByteArray := prog_1_method_16_code
def yX4_counter : MethodName := ⟨RX4, "counter", "(I)I"⟩
abbrev cX4_find : ByteArray := prog_1_method_17_code
def yX4_find : MethodName := ⟨RX4, "find", "(I)LUpdatePacks$Controller;"⟩
abbrev cX4_isPackage : ByteArray := prog_1_method_18_code
def yX4_isPackage : MethodName := ⟨RX4, "isPackage", "(I)Z"⟩
abbrev cX4_findOpen : ByteArray := prog_1_method_19_code
def yX4_findOpen : MethodName := ⟨RX4, "findOpen", "(I)LUpdatePacks$Pack;"⟩
abbrev cX4_bothHold : ByteArray := prog_1_method_20_code
def yX4_bothHold : MethodName := ⟨RX4, "bothHold", "()Z"⟩
abbrev cX4_refusalOf : ByteArray := prog_1_method_21_code
def yX4_refusalOf : MethodName := ⟨RX4, "refusalOf", "(LUpdatePacks$Controller;IZ)I"⟩
abbrev cX4_joinSets : ByteArray := prog_1_method_22_code
def yX4_joinSets : MethodName := ⟨RX4, "joinSets", "(II)I"⟩
abbrev cX4_stepOfReady : ByteArray := prog_1_method_23_code
def yX4_stepOfReady : MethodName := ⟨RX4, "stepOfReady", "(LUpdatePacks$Controller;)I"⟩
abbrev cX4_allCanCommit : ByteArray := prog_1_method_24_code
def yX4_allCanCommit : MethodName := ⟨RX4, "allCanCommit", "(I)Z"⟩
abbrev cX4_commit : ByteArray := prog_1_method_25_code
def yX4_commit : MethodName := ⟨RX4, "commit", "(I)V"⟩
abbrev cX4_switchBanks : ByteArray := prog_1_method_26_code
def yX4_switchBanks : MethodName := ⟨RX4, "switchBanks", "(LUpdatePacks$Controller;)V"⟩
abbrev cX4_allSwitched : ByteArray := prog_1_method_27_code
def yX4_allSwitched : MethodName := ⟨RX4, "allSwitched", "(I)Z"⟩
abbrev cX4_makeLastSet : ByteArray := prog_1_method_28_code
def yX4_makeLastSet : MethodName := ⟨RX4, "makeLastSet", "(I)V"⟩
abbrev cX4_hasLastSet : ByteArray := prog_1_method_29_code
def yX4_hasLastSet : MethodName := ⟨RX4, "hasLastSet", "()Z"⟩
abbrev cX4_lastSetMayGoBack : ByteArray := prog_1_method_30_code
def yX4_lastSetMayGoBack : MethodName := ⟨RX4, "lastSetMayGoBack", "()Z"⟩
def RX5 : String := "UpdatePacksModel"
def TX5 : u_T := fun k => match k with
  | 0 => ("UpdatePacksModel", "code", "I", false)
  | 1 => ("UpdatePacksModel", "controllers", "I", false)
  | 2 => ("UpdatePacksModel", "hardware", "[I", true)
  | 3 => ("UpdatePacksModel", "runs", "[I", true)
  | 4 => ("UpdatePacksModel", "counter", "[I", true)
  | 5 => ("UpdatePacksModel", "open", "[I", true)
  | 6 => ("UpdatePacksModel", "off", "[Z", true)
  | 7 => ("UpdatePacksModel", "silent", "[Z", true)
  | 8 => ("UpdatePacksModel", "faultAt", "[I", true)
  | 9 => ("UpdatePacksModel", "fault", "[I", true)
  | 10 => ("UpdatePacksModel", "edition", "[I", true)
  | 11 => ("UpdatePacksModel", "bank", "[I", true)
  | 12 => ("UpdatePacksModel", "packages", "I", false)
  | 13 => ("UpdatePacksModel", "of", "[I", true)
  | 14 => ("UpdatePacksModel", "to", "[I", true)
  | 15 => ("UpdatePacksModel", "length", "[I", true)
  | 16 => ("UpdatePacksModel", "state", "[I", true)
  | 17 => ("UpdatePacksModel", "written", "[I", true)
  | 18 => ("UpdatePacksModel", "in", "[I", true)
  | 19 => ("UpdatePacksModel", "set", "[I", true)
  | 20 => ("UpdatePacksModel", "committed", "[Z", true)
  | 21 => ("UpdatePacksModel", "octets", "[I", true)
  | 22 => ("UpdatePacksModel", "given", "I", false)
  | 23 => ("UpdatePacksModel", "under", "[I", true)
  | 24 => ("UpdatePacksModel", "digestLength", "I", false)
  | 25 => ("UpdatePacksModel", "digest", "[I", true)
  | 26 => ("UpdatePacksModel", "unparked", "Z", false)
  | 27 => ("UpdatePacksModel", "empty", "Z", false)
  | 28 => ("UpdatePacksModel", "last", "I", false)
  | 29 => ("UpdatePacksModel", "roots", "[I", true)
  | 30 => ("UpdatePacksModel", "cubes", "[I", true)
  | 31 => ("UpdatePacksModel", "power", "[I", true)
  | 32 => ("UpdatePacksModel", "other", "[I", true)
  | 33 => ("UpdatePacksModel", "hash", "[I", true)
  | 34 => ("UpdatePacksModel", "word", "[I", true)
  | _ => ("UpdatePacksModel", "work", "[I", true)
def tyX5 : Nat → FieldType := fun k => match k with
  | 0 => .int
  | 1 => .int
  | 2 => .array .int
  | 3 => .array .int
  | 4 => .array .int
  | 5 => .array .int
  | 6 => .array .boolean
  | 7 => .array .boolean
  | 8 => .array .int
  | 9 => .array .int
  | 10 => .array .int
  | 11 => .array .int
  | 12 => .int
  | 13 => .array .int
  | 14 => .array .int
  | 15 => .array .int
  | 16 => .array .int
  | 17 => .array .int
  | 18 => .array .int
  | 19 => .array .int
  | 20 => .array .boolean
  | 21 => .array .int
  | 22 => .int
  | 23 => .array .int
  | 24 => .int
  | 25 => .array .int
  | 26 => .boolean
  | 27 => .boolean
  | 28 => .int
  | 29 => .array .int
  | 30 => .array .int
  | 31 => .array .int
  | 32 => .array .int
  | 33 => .array .int
  | 34 => .array .int
  | _ => .array .int
abbrev wsX50 : List Cond := u_ws RX5 TX5 36
theorem nmX5 : ∀ a, a < 36 → ∀ b, b < 36 → a ≠ b → (TX5 a).2.1 ≠ (TX5 b).2.1 := by decide +kernel
theorem tyX5_ok : ∀ k, k < 36 → parseFieldDescriptor (TX5 k).2.2.1 = some (tyX5 k) := by decide +kernel
abbrev cX5_init : ByteArray := prog_7_method_1_code
def yX5_init : MethodName := ⟨RX5, "<init>", "()V"⟩
abbrev cX5_thrown : ByteArray := prog_7_method_2_code
def yX5_thrown : MethodName := ⟨RX5, "thrown", "()I"⟩
abbrev cX5_raise : ByteArray := prog_7_method_3_code
def yX5_raise : MethodName := ⟨RX5, "raise", "(JI)V"⟩
abbrev cX5_root : ByteArray := prog_7_method_4_code
def yX5_root : MethodName := ⟨RX5, "root", "(II)J"⟩
abbrev cX5_turned : ByteArray := prog_7_method_5_code
def yX5_turned : MethodName := ⟨RX5, "turned", "(II)I"⟩
abbrev cX5_padded : ByteArray := prog_7_method_6_code
def yX5_padded : MethodName := ⟨RX5, "padded", "(III)I"⟩
abbrev cX5_findDigest : ByteArray := prog_7_method_7_code
def yX5_findDigest : MethodName := ⟨RX5, "findDigest", "(I)V"⟩
abbrev cX5_at : ByteArray := prog_7_method_8_code
def yX5_at : MethodName := ⟨RX5, "at", "(II)I"⟩
abbrev cX5_none : ByteArray := prog_7_method_9_code
def yX5_none : MethodName := ⟨RX5, "none", "(I)Z"⟩
abbrev cX5_controller : ByteArray := prog_7_method_10_code
def yX5_controller : MethodName := ⟨RX5, "controller", "(I)I"⟩
abbrev cX5_octet : ByteArray := prog_7_method_11_code
def yX5_octet : MethodName := ⟨RX5, "octet", "(B)V"⟩
abbrev cX5_stateOf : ByteArray := prog_7_method_12_code
def yX5_stateOf : MethodName := ⟨RX5, "stateOf", "(I)I"⟩
abbrev cX5_there : ByteArray := prog_7_method_13_code
def yX5_there : MethodName := ⟨RX5, "there", "(I)Z"⟩
abbrev cX5_hold : ByteArray := prog_7_method_14_code
def yX5_hold : MethodName := ⟨RX5, "hold", "()Z"⟩
abbrev cX5_package0 : ByteArray := prog_7_method_15_code
def yX5_package0 : MethodName := ⟨RX5, "package0", "(IIZ)I"⟩
abbrev cX5_digest : ByteArray := prog_7_method_16_code
def yX5_digest : MethodName := ⟨RX5, "digest", "(I)B"⟩
abbrev cX5_isOpen : ByteArray := prog_7_method_17_code
def yX5_isOpen : MethodName := ⟨RX5, "isOpen", "(I)Z"⟩
abbrev cX5_needs : ByteArray := prog_7_method_18_code
def yX5_needs : MethodName := ⟨RX5, "needs", "(II)I"⟩
abbrev cX5_block : ByteArray := prog_7_method_19_code
def yX5_block : MethodName := ⟨RX5, "block", "(IIB)I"⟩
abbrev cX5_condition : ByteArray := prog_7_method_20_code
def yX5_condition : MethodName := ⟨RX5, "condition", "(IZ)I"⟩
abbrev cX5_write : ByteArray := prog_7_method_21_code
def yX5_write : MethodName := ⟨RX5, "write", "(I)V"⟩
abbrev cX5_allIn : ByteArray := prog_7_method_22_code
def yX5_allIn : MethodName := ⟨RX5, "allIn", "(II)Z"⟩
abbrev cX5_change : ByteArray := prog_7_method_23_code
def yX5_change : MethodName := ⟨RX5, "change", "(I)V"⟩
abbrev cX5_step : ByteArray := prog_7_method_24_code
def yX5_step : MethodName := ⟨RX5, "step", "(I)I"⟩
abbrev cX5_cut : ByteArray := prog_7_method_25_code
def yX5_cut : MethodName := ⟨RX5, "cut", "()I"⟩
abbrev cX5_boot : ByteArray := prog_7_method_26_code
def yX5_boot : MethodName := ⟨RX5, "boot", "(I)I"⟩
abbrev cX5_bank : ByteArray := prog_7_method_27_code
def yX5_bank : MethodName := ⟨RX5, "bank", "(IIJ)B"⟩
abbrev cX5_joint : ByteArray := prog_7_method_28_code
def yX5_joint : MethodName := ⟨RX5, "joint", "()I"⟩
abbrev cX5_rollback : ByteArray := prog_7_method_29_code
def yX5_rollback : MethodName := ⟨RX5, "rollback", "()I"⟩
abbrev cX5_silent : ByteArray := prog_7_method_30_code
def yX5_silent : MethodName := ⟨RX5, "silent", "(IZ)I"⟩
abbrev cX5_counter : ByteArray := prog_7_method_31_code
def yX5_counter : MethodName := ⟨RX5, "counter", "(I)I"⟩
def RJx00060 : String := "java/lang/ArrayIndexOutOfBoundsException"
def TJx00060 : u_T := fun k => match k with
  | 0 => ("java/lang/Throwable", "backtrace", "Ljava/lang/Object;", false)
  | 1 => ("java/lang/Throwable", "detailMessage", "Ljava/lang/String;", false)
  | 2 => ("java/lang/Throwable", "cause", "Ljava/lang/Throwable;", false)
  | 3 => ("java/lang/Throwable", "stackTrace", "[Ljava/lang/StackTraceElement;", false)
  | 4 => ("java/lang/Throwable", "depth", "I", false)
  | _ => ("java/lang/Throwable", "suppressedExceptions", "Ljava/util/List;", false)
def tyJx00060 : Nat → FieldType := fun k => match k with
  | 0 => .object "java/lang/Object"
  | 1 => .object "java/lang/String"
  | 2 => .object "java/lang/Throwable"
  | 3 => .array (.object "java/lang/StackTraceElement")
  | 4 => .int
  | _ => .object "java/util/List"
abbrev wsJx000600 : List Cond := u_ws RJx00060 TJx00060 6
theorem nmJx00060 : ∀ a, a < 6 → ∀ b, b < 6 → a ≠ b → (TJx00060 a).2.1 ≠ (TJx00060 b).2.1 := by decide +kernel
theorem tyJx00060_ok : ∀ k, k < 6 → parseFieldDescriptor (TJx00060 k).2.2.1 = some (tyJx00060 k) := by decide +kernel
abbrev cJx00060_init_a7421 : ByteArray := prog_8_method_2_code
def yJx00060_init_a7421 : MethodName := ⟨RJx00060, "<init>", "(Ljava/lang/String;)V"⟩
def RJ9 : String := "java/lang/Math"
def TJ9 : u_T := fun k => match k with
  | _ => ("", "", "", false)
def tyJ9 : Nat → FieldType := fun k => match k with
  | _ => .int
abbrev wsJ90 : List Cond := u_ws RJ9 TJ9 0
theorem nmJ9 : ∀ a, a < 0 → ∀ b, b < 0 → a ≠ b → (TJ9 a).2.1 ≠ (TJ9 b).2.1 := by decide +kernel
theorem tyJ9_ok : ∀ k, k < 0 → parseFieldDescriptor (TJ9 k).2.2.1 = some (tyJ9 k) := by decide +kernel
abbrev cJ9_min_7cf53 : ByteArray := prog_11_method_69_code
def yJ9_min_7cf53 : MethodName := ⟨RJ9, "min", "(II)I"⟩
def RJ0 : String := "java/lang/String"
def TJ0 : u_T := fun k => match k with
  | 0 => ("java/lang/String", "value", "[B", true)
  | _ => ("java/lang/String", "coder", "B", true)
def tyJ0 : Nat → FieldType := fun k => match k with
  | 0 => .array .byte
  | _ => .byte
abbrev wsJ00 : List Cond := u_ws RJ0 TJ0 2
theorem nmJ0 : ∀ a, a < 2 → ∀ b, b < 2 → a ≠ b → (TJ0 a).2.1 ≠ (TJ0 b).2.1 := by decide +kernel
theorem tyJ0_ok : ∀ k, k < 2 → parseFieldDescriptor (TJ0 k).2.2.1 = some (tyJ0 k) := by decide +kernel
def RL : String := "UpdatePacksLaw"
abbrev cL_digest : ByteArray := method_3_code
def yL_digest : MethodName := ⟨RL, "digest", "(LUpdatePacks;I[J)I"⟩
abbrev cL_bank : ByteArray := method_4_code
def yL_bank : MethodName := ⟨RL, "bank", "(LUpdatePacks;IIJ[J)I"⟩
abbrev cL_law : ByteArray := code
def yL_law : MethodName := ⟨RL, "law", "([I)Z"⟩
def wsX0_init : List Cond := .code yX0_init cX0_init 1 none :: ([.methodLink RX0 3 objectInit, .instanceMethod objectInit, .code objectInit ⟨#[0xb1]⟩ 1 none, .arrayClass .byte, .fieldLink RX0 9 "UpdatePacks$Bank" "octets" "[B"] ++ wsX00)
def wsX3_init : List Cond := .code yX3_init cX3_init 1 none :: ([.methodLink RX3 3 objectInit, .instanceMethod objectInit, .code objectInit ⟨#[0xb1]⟩ 1 none, .arrayClass .byte, .fieldLink RX3 9 "UpdatePacks$Pack" "octets" "[B"] ++ wsX30)
def wsX1_init : List Cond := .code yX1_init cX1_init 2 none :: ([.methodLink RX1 3 objectInit, .instanceMethod objectInit, .code objectInit ⟨#[0xb1]⟩ 1 none, .fieldLink RX1 9 "UpdatePacks$Controller" "hardware" "I", .classLink RX1 15 RX0, .fieldLink RX1 17 "UpdatePacks$Controller" "banks" "[LUpdatePacks$Bank;", .instantiable RX0 3, .initialized RX0, .classLink RX1 22 RX3, .instantiable RX3 8, .initialized RX3, .fieldLink RX1 25 "UpdatePacks$Controller" "pack" "LUpdatePacks$Pack;", .methodLink RX1 21 yX0_init, .instanceMethod yX0_init, .code yX0_init cX0_init 1 none, .methodLink RX0 3 objectInit, .arrayClass .byte, .fieldLink RX0 9 "UpdatePacks$Bank" "octets" "[B", .methodLink RX1 24 yX3_init, .instanceMethod yX3_init, .code yX3_init cX3_init 1 none, .methodLink RX3 3 objectInit, .fieldLink RX3 9 "UpdatePacks$Pack" "octets" "[B"] ++ wsX10 ++ wsX00 ++ wsX30)
def wsX1_isAway : List Cond := .code yX1_isAway cX1_isAway 1 (some .boolean) :: ([.fieldLink RX1 29 "UpdatePacks$Controller" "off" "Z", .fieldLink RX1 33 "UpdatePacks$Controller" "silent" "Z"] ++ wsX10)
def wsX1_isOfLastSet : List Cond := .code yX1_isOfLastSet cX1_isOfLastSet 1 (some .boolean) :: ([.fieldLink RX1 36 "UpdatePacks$Controller" "lastPack" "I"] ++ wsX10)
def wsX1_runningBank : List Cond := .code yX1_runningBank cX1_runningBank 1 (some (.object "UpdatePacks$Bank")) :: ([.fieldLink RX1 17 "UpdatePacks$Controller" "banks" "[LUpdatePacks$Bank;", .fieldLink RX1 39 "UpdatePacks$Controller" "running" "I"] ++ wsX10)
def wsX1_runOtherBank : List Cond := .code yX1_runOtherBank cX1_runOtherBank 1 none :: ([.fieldLink RX1 39 "UpdatePacks$Controller" "running" "I", .fieldLink RX1 17 "UpdatePacks$Controller" "banks" "[LUpdatePacks$Bank;", .fieldLink RX1 42 "UpdatePacks$Bank" "edition" "I", .fieldLink RX1 45 "UpdatePacks$Controller" "counter" "I"] ++ wsX10 ++ wsX00)
def wsX1_completeBank : List Cond := .code yX1_completeBank cX1_completeBank 3 none :: ([.fieldLink RX1 25 "UpdatePacks$Controller" "pack" "LUpdatePacks$Pack;", .fieldLink RX1 51 "UpdatePacks$Pack" "length" "I", .fieldLink RX1 67 "UpdatePacks$Bank" "octets" "[B", .fieldLink RX1 76 "UpdatePacks$Pack" "edition" "I", .fieldLink RX1 42 "UpdatePacks$Bank" "edition" "I", .fieldLink RX1 77 "UpdatePacks$Pack" "number" "I", .fieldLink RX1 80 "UpdatePacks$Bank" "packNumber" "I", .fieldLink RX1 83 "UpdatePacks$Pack" "state" "I"] ++ wsX10 ++ wsX30 ++ wsX00 ++ (vx_atM "java/lang/ArrayIndexOutOfBoundsException" ["java/lang/IndexOutOfBoundsException", "java/lang/RuntimeException", "java/lang/Exception"]).filter goodWord)
def wsX1_writeNextBlock : List Cond := .code yX1_writeNextBlock cX1_writeNextBlock 7 none :: ([.fieldLink RX1 17 "UpdatePacks$Controller" "banks" "[LUpdatePacks$Bank;", .fieldLink RX1 39 "UpdatePacks$Controller" "running" "I", .fieldLink RX1 25 "UpdatePacks$Controller" "pack" "LUpdatePacks$Pack;", .fieldLink RX1 48 "UpdatePacks$Pack" "written" "I", .fieldLink RX1 51 "UpdatePacks$Pack" "length" "I", .methodLink RX1 54 Lib.Math.min.name, .static Lib.Math.min.name, .initialized "java/lang/Math", .code Lib.Math.min.name Lib.Math.min.code 2 (some .int), .fieldLink RX1 60 "UpdatePacks$Controller" "fault" "B", .fieldLink RX1 64 "UpdatePacks$Controller" "faultBlock" "I", .fieldLink RX1 67 "UpdatePacks$Bank" "octets" "[B", .fieldLink RX1 71 "UpdatePacks$Pack" "octets" "[B", .methodLink RX1 72 yX1_completeBank, .instanceMethod yX1_completeBank, .selects RX1 yX1_completeBank yX1_completeBank, .initialized RX1, .code yX1_completeBank cX1_completeBank 3 none, .fieldLink RX1 76 "UpdatePacks$Pack" "edition" "I", .fieldLink RX1 42 "UpdatePacks$Bank" "edition" "I", .fieldLink RX1 77 "UpdatePacks$Pack" "number" "I", .fieldLink RX1 80 "UpdatePacks$Bank" "packNumber" "I", .fieldLink RX1 83 "UpdatePacks$Pack" "state" "I"] ++ wsX10 ++ wsX30 ++ wsX00 ++ (vx_atM "java/lang/ArrayIndexOutOfBoundsException" ["java/lang/IndexOutOfBoundsException", "java/lang/RuntimeException", "java/lang/Exception"]).filter goodWord)
def wsX2_init : List Cond := .code yX2_init cX2_init 1 none :: ([.methodLink RX2 1 objectInit, .instanceMethod objectInit, .code objectInit ⟨#[0xb1]⟩ 1 none, .arrayClass .byte, .fieldLink RX2 9 "UpdatePacks$Digester" "message" "[B", .arrayClass .int, .fieldLink RX2 13 "UpdatePacks$Digester" "schedule" "[I", .fieldLink RX2 17 "UpdatePacks$Digester" "result" "[I"] ++ wsX20)
def wsX2_resultOctet : List Cond := .code yX2_resultOctet cX2_resultOctet 2 (some .byte) :: ([.fieldLink RX2 17 "UpdatePacks$Digester" "result" "[I"] ++ wsX20 ++ (vx_atM "java/lang/ArrayIndexOutOfBoundsException" ["java/lang/IndexOutOfBoundsException", "java/lang/RuntimeException", "java/lang/Exception"]).filter goodWord)
def wsX2_layOut : List Cond := .code yX2_layOut cX2_layOut 7 (some .int) :: ([.fieldLink RX2 9 "UpdatePacks$Digester" "message" "[B", .constantLong RX2 34 (8)] ++ wsX20 ++ (vx_atM "java/lang/ArrayIndexOutOfBoundsException" ["java/lang/IndexOutOfBoundsException", "java/lang/RuntimeException", "java/lang/Exception"]).filter goodWord)
def wsX2_wordAt : List Cond := .code yX2_wordAt cX2_wordAt 2 (some .int) :: ([.fieldLink RX2 9 "UpdatePacks$Digester" "message" "[B"] ++ wsX20 ++ (vx_atM "java/lang/ArrayIndexOutOfBoundsException" ["java/lang/IndexOutOfBoundsException", "java/lang/RuntimeException", "java/lang/Exception"]).filter goodWord)
def wsX2_turned : List Cond := .code yX2_turned cX2_turned 2 (some .int) :: ([])
def wsX2_spread : List Cond := .code yX2_spread cX2_spread 4 (some .int) :: ([.methodLink RX2 50 yX2_turned, .static yX2_turned, .initialized RX2, .code yX2_turned cX2_turned 2 (some .int)])
def wsX2_fillSchedule : List Cond := .code yX2_fillSchedule cX2_fillSchedule 3 none :: ([.fieldLink RX2 13 "UpdatePacks$Digester" "schedule" "[I", .methodLink RX2 36 yX2_wordAt, .instanceMethod yX2_wordAt, .selects RX2 yX2_wordAt yX2_wordAt, .initialized RX2, .code yX2_wordAt cX2_wordAt 2 (some .int), .fieldLink RX2 9 "UpdatePacks$Digester" "message" "[B", .methodLink RX2 40 yX2_spread, .static yX2_spread, .code yX2_spread cX2_spread 4 (some .int), .methodLink RX2 50 yX2_turned, .static yX2_turned, .code yX2_turned cX2_turned 2 (some .int)] ++ wsX20 ++ (vx_atM "java/lang/ArrayIndexOutOfBoundsException" ["java/lang/IndexOutOfBoundsException", "java/lang/RuntimeException", "java/lang/Exception"]).filter goodWord)
def wsX2_turns : List Cond := .code yX2_turns cX2_turns 4 (some .int) :: ([.methodLink RX2 50 yX2_turned, .static yX2_turned, .initialized RX2, .code yX2_turned cX2_turned 2 (some .int)])
def wsX2_mix : List Cond := .code yX2_mix cX2_mix 12 none :: ([.fieldLink RX2 17 "UpdatePacks$Digester" "result" "[I", .fieldLink RX2 47 "UpdatePacks$Digester" "CUBE_ROOTS" "[I", .fieldLink RX2 13 "UpdatePacks$Digester" "schedule" "[I", .methodLink RX2 44 yX2_turns, .static yX2_turns, .initialized RX2, .code yX2_turns cX2_turns 4 (some .int), .methodLink RX2 50 yX2_turned, .static yX2_turned, .code yX2_turned cX2_turned 2 (some .int)] ++ wsX20 ++ (vx_atM "java/lang/ArrayIndexOutOfBoundsException" ["java/lang/IndexOutOfBoundsException", "java/lang/RuntimeException", "java/lang/Exception"]).filter goodWord)
def wsX2_digestOf_r1 : List Cond := [Cond.fieldLink RX2 17 "UpdatePacks$Digester" "result" "[I", Cond.fieldLink RX2 24 "UpdatePacks$Digester" "SQUARE_ROOTS" "[I", Cond.methodLink RX2 20 yX2_layOut, Cond.instanceMethod yX2_layOut, Cond.selects RX2 yX2_layOut yX2_layOut, Cond.initialized RX2, Cond.code yX2_layOut cX2_layOut 7 (some .int), Cond.fieldLink RX2 9 "UpdatePacks$Digester" "message" "[B", Cond.constantLong RX2 34 (8), Cond.methodLink RX2 27 yX2_fillSchedule, Cond.instanceMethod yX2_fillSchedule, Cond.selects RX2 yX2_fillSchedule yX2_fillSchedule, Cond.code yX2_fillSchedule cX2_fillSchedule 3 none, Cond.fieldLink RX2 13 "UpdatePacks$Digester" "schedule" "[I", Cond.methodLink RX2 36 yX2_wordAt, Cond.instanceMethod yX2_wordAt, Cond.selects RX2 yX2_wordAt yX2_wordAt, Cond.code yX2_wordAt cX2_wordAt 2 (some .int), Cond.methodLink RX2 40 yX2_spread, Cond.static yX2_spread, Cond.code yX2_spread cX2_spread 4 (some .int), Cond.methodLink RX2 50 yX2_turned, Cond.static yX2_turned, Cond.code yX2_turned cX2_turned 2 (some .int)]
def wsX2_digestOf_r2 : List Cond := [Cond.methodLink RX2 31 yX2_mix, Cond.instanceMethod yX2_mix, Cond.selects RX2 yX2_mix yX2_mix, Cond.code yX2_mix cX2_mix 12 none, Cond.fieldLink RX2 47 "UpdatePacks$Digester" "CUBE_ROOTS" "[I", Cond.methodLink RX2 44 yX2_turns, Cond.static yX2_turns, Cond.code yX2_turns cX2_turns 4 (some .int)]
def wsX2_digestOf : List Cond := .code yX2_digestOf cX2_digestOf 5 none :: ((wsX2_digestOf_r1 ++ wsX2_digestOf_r2) ++ wsX20 ++ (vx_atM "java/lang/ArrayIndexOutOfBoundsException" ["java/lang/IndexOutOfBoundsException", "java/lang/RuntimeException", "java/lang/Exception"]).filter goodWord)
def wsX3_begin : List Cond := .code yX3_begin cX3_begin 6 none :: ([.fieldLink RX3 9 "UpdatePacks$Pack" "octets" "[B", .fieldLink RX3 15 "UpdatePacks$Pack" "length" "I", .fieldLink RX3 19 "UpdatePacks$Pack" "number" "I", .fieldLink RX3 22 "UpdatePacks$Pack" "edition" "I", .fieldLink RX3 25 "UpdatePacks$Pack" "state" "I", .fieldLink RX3 28 "UpdatePacks$Pack" "written" "I", .fieldLink RX3 31 "UpdatePacks$Pack" "set" "I", .fieldLink RX3 34 "UpdatePacks$Pack" "committed" "Z"] ++ wsX30 ++ (vx_atM "java/lang/ArrayIndexOutOfBoundsException" ["java/lang/IndexOutOfBoundsException", "java/lang/RuntimeException", "java/lang/Exception"]).filter goodWord)
def wsX3_isOf : List Cond := .code yX3_isOf cX3_isOf 2 (some .boolean) :: ([.fieldLink RX3 25 "UpdatePacks$Pack" "state" "I", .fieldLink RX3 31 "UpdatePacks$Pack" "set" "I"] ++ wsX30)
def wsX3_loseBlock : List Cond := .code yX3_loseBlock cX3_loseBlock 1 none :: ([.fieldLink RX3 25 "UpdatePacks$Pack" "state" "I", .fieldLink RX3 28 "UpdatePacks$Pack" "written" "I"] ++ wsX30)
def wsX4_init : List Cond := .code yX4_init cX4_init 1 none :: ([.methodLink RX4 1 objectInit, .instanceMethod objectInit, .code objectInit ⟨#[0xb1]⟩ 1 none, .classLink RX4 9 RX1, .fieldLink RX4 11 "UpdatePacks" "controllers" "[LUpdatePacks$Controller;", .arrayClass .byte, .fieldLink RX4 15 "UpdatePacks" "octets" "[B", .fieldLink RX4 19 "UpdatePacks" "parked" "Z", .fieldLink RX4 23 "UpdatePacks" "battery" "Z", .classLink RX4 26 RX2, .instantiable RX2 3, .initialized RX2, .fieldLink RX4 29 "UpdatePacks" "digester" "LUpdatePacks$Digester;", .methodLink RX4 28 yX2_init, .instanceMethod yX2_init, .code yX2_init cX2_init 1 none, .methodLink RX2 1 objectInit, .fieldLink RX2 9 "UpdatePacks$Digester" "message" "[B", .arrayClass .int, .fieldLink RX2 13 "UpdatePacks$Digester" "schedule" "[I", .fieldLink RX2 17 "UpdatePacks$Digester" "result" "[I"] ++ wsX40 ++ wsX20)
def wsX4_controller_r1 : List Cond := [Cond.fieldLink RX4 33 "UpdatePacks" "controllerCount" "I", Cond.fieldLink RX4 11 "UpdatePacks" "controllers" "[LUpdatePacks$Controller;", Cond.classLink RX4 9 RX1, Cond.instantiable RX1 10, Cond.initialized RX1, Cond.methodLink RX4 37 yX1_init, Cond.instanceMethod yX1_init, Cond.code yX1_init cX1_init 2 none, Cond.methodLink RX1 3 objectInit, Cond.instanceMethod objectInit, Cond.code objectInit ⟨#[0xb1]⟩ 1 none, Cond.fieldLink RX1 9 "UpdatePacks$Controller" "hardware" "I", Cond.classLink RX1 15 RX0, Cond.fieldLink RX1 17 "UpdatePacks$Controller" "banks" "[LUpdatePacks$Bank;", Cond.instantiable RX0 3, Cond.initialized RX0, Cond.classLink RX1 22 RX3, Cond.instantiable RX3 8, Cond.initialized RX3, Cond.fieldLink RX1 25 "UpdatePacks$Controller" "pack" "LUpdatePacks$Pack;", Cond.methodLink RX1 21 yX0_init, Cond.instanceMethod yX0_init, Cond.code yX0_init cX0_init 1 none, Cond.methodLink RX0 3 objectInit]
def wsX4_controller_r2 : List Cond := [Cond.arrayClass .byte, Cond.fieldLink RX0 9 "UpdatePacks$Bank" "octets" "[B", Cond.methodLink RX1 24 yX3_init, Cond.instanceMethod yX3_init, Cond.code yX3_init cX3_init 1 none, Cond.methodLink RX3 3 objectInit, Cond.fieldLink RX3 9 "UpdatePacks$Pack" "octets" "[B"]
def wsX4_controller : List Cond := .code yX4_controller cX4_controller 2 (some .int) :: ((wsX4_controller_r1 ++ wsX4_controller_r2) ++ wsX40 ++ wsX10 ++ wsX00 ++ wsX30)
def wsX4_octet : List Cond := .code yX4_octet cX4_octet 2 none :: ([.fieldLink RX4 40 "UpdatePacks" "octetCount" "I", .fieldLink RX4 15 "UpdatePacks" "octets" "[B"] ++ wsX40 ++ (vx_atM "java/lang/ArrayIndexOutOfBoundsException" ["java/lang/IndexOutOfBoundsException", "java/lang/RuntimeException", "java/lang/Exception"]).filter goodWord)
def wsX4_find : List Cond := .code yX4_find cX4_find 2 (some (.object "UpdatePacks$Controller")) :: ([.fieldLink RX4 33 "UpdatePacks" "controllerCount" "I", .fieldLink RX4 11 "UpdatePacks" "controllers" "[LUpdatePacks$Controller;"] ++ wsX40)
def wsX4_refusalOf : List Cond := .code yX4_refusalOf cX4_refusalOf 4 (some .int) :: ([.fieldLink RX4 40 "UpdatePacks" "octetCount" "I", .fieldLink RX4 54 "UpdatePacks$Controller" "pack" "LUpdatePacks$Pack;", .fieldLink RX4 111 "UpdatePacks$Pack" "state" "I", .fieldLink RX4 51 "UpdatePacks" "packageCount" "I", .fieldLink RX4 15 "UpdatePacks" "octets" "[B", .fieldLink RX4 176 "UpdatePacks$Controller" "hardware" "I", .fieldLink RX4 170 "UpdatePacks$Controller" "counter" "I"] ++ wsX40 ++ wsX10 ++ wsX30 ++ (vx_atM "java/lang/ArrayIndexOutOfBoundsException" ["java/lang/IndexOutOfBoundsException", "java/lang/RuntimeException", "java/lang/Exception"]).filter goodWord)
def wsX4_package0_r1 : List Cond := [Cond.fieldLink RX4 51 "UpdatePacks" "packageCount" "I", Cond.fieldLink RX4 54 "UpdatePacks$Controller" "pack" "LUpdatePacks$Pack;", Cond.fieldLink RX4 15 "UpdatePacks" "octets" "[B", Cond.fieldLink RX4 40 "UpdatePacks" "octetCount" "I", Cond.fieldLink RX4 29 "UpdatePacks" "digester" "LUpdatePacks$Digester;", Cond.methodLink RX4 43 yX4_find, Cond.instanceMethod yX4_find, Cond.selects RX4 yX4_find yX4_find, Cond.initialized RX4, Cond.code yX4_find cX4_find 2 (some (.object "UpdatePacks$Controller")), Cond.fieldLink RX4 33 "UpdatePacks" "controllerCount" "I", Cond.fieldLink RX4 11 "UpdatePacks" "controllers" "[LUpdatePacks$Controller;", Cond.methodLink RX4 47 yX4_refusalOf, Cond.instanceMethod yX4_refusalOf, Cond.selects RX4 yX4_refusalOf yX4_refusalOf, Cond.code yX4_refusalOf cX4_refusalOf 4 (some .int), Cond.fieldLink RX4 111 "UpdatePacks$Pack" "state" "I", Cond.fieldLink RX4 176 "UpdatePacks$Controller" "hardware" "I", Cond.fieldLink RX4 170 "UpdatePacks$Controller" "counter" "I", Cond.methodLink RX4 58 yX3_begin, Cond.instanceMethod yX3_begin, Cond.selects RX3 yX3_begin yX3_begin, Cond.initialized RX3, Cond.code yX3_begin cX3_begin 6 none]
def wsX4_package0_r2 : List Cond := [Cond.fieldLink RX3 9 "UpdatePacks$Pack" "octets" "[B", Cond.fieldLink RX3 15 "UpdatePacks$Pack" "length" "I", Cond.fieldLink RX3 19 "UpdatePacks$Pack" "number" "I", Cond.fieldLink RX3 22 "UpdatePacks$Pack" "edition" "I", Cond.fieldLink RX3 25 "UpdatePacks$Pack" "state" "I", Cond.fieldLink RX3 28 "UpdatePacks$Pack" "written" "I", Cond.fieldLink RX3 31 "UpdatePacks$Pack" "set" "I", Cond.fieldLink RX3 34 "UpdatePacks$Pack" "committed" "Z", Cond.methodLink RX4 64 yX2_digestOf, Cond.instanceMethod yX2_digestOf, Cond.selects RX2 yX2_digestOf yX2_digestOf, Cond.initialized RX2, Cond.code yX2_digestOf cX2_digestOf 5 none, Cond.fieldLink RX2 17 "UpdatePacks$Digester" "result" "[I", Cond.fieldLink RX2 24 "UpdatePacks$Digester" "SQUARE_ROOTS" "[I", Cond.methodLink RX2 20 yX2_layOut, Cond.instanceMethod yX2_layOut, Cond.selects RX2 yX2_layOut yX2_layOut, Cond.code yX2_layOut cX2_layOut 7 (some .int), Cond.fieldLink RX2 9 "UpdatePacks$Digester" "message" "[B", Cond.constantLong RX2 34 (8), Cond.methodLink RX2 27 yX2_fillSchedule, Cond.instanceMethod yX2_fillSchedule, Cond.selects RX2 yX2_fillSchedule yX2_fillSchedule]
def wsX4_package0_r3 : List Cond := [Cond.code yX2_fillSchedule cX2_fillSchedule 3 none, Cond.fieldLink RX2 13 "UpdatePacks$Digester" "schedule" "[I", Cond.methodLink RX2 36 yX2_wordAt, Cond.instanceMethod yX2_wordAt, Cond.selects RX2 yX2_wordAt yX2_wordAt, Cond.code yX2_wordAt cX2_wordAt 2 (some .int), Cond.methodLink RX2 40 yX2_spread, Cond.static yX2_spread, Cond.code yX2_spread cX2_spread 4 (some .int), Cond.methodLink RX2 50 yX2_turned, Cond.static yX2_turned, Cond.code yX2_turned cX2_turned 2 (some .int), Cond.methodLink RX2 31 yX2_mix, Cond.instanceMethod yX2_mix, Cond.selects RX2 yX2_mix yX2_mix, Cond.code yX2_mix cX2_mix 12 none, Cond.fieldLink RX2 47 "UpdatePacks$Digester" "CUBE_ROOTS" "[I", Cond.methodLink RX2 44 yX2_turns, Cond.static yX2_turns, Cond.code yX2_turns cX2_turns 4 (some .int)]
def wsX4_package0 : List Cond := .code yX4_package0 cX4_package0 6 (some .int) :: ((wsX4_package0_r1 ++ (wsX4_package0_r2 ++ wsX4_package0_r3)) ++ wsX40 ++ wsX10 ++ wsX30 ++ wsX20 ++ (vx_atM "java/lang/ArrayIndexOutOfBoundsException" ["java/lang/IndexOutOfBoundsException", "java/lang/RuntimeException", "java/lang/Exception"]).filter goodWord)
def wsX4_digest : List Cond := .code yX4_digest cX4_digest 2 (some .byte) :: ([.fieldLink RX4 51 "UpdatePacks" "packageCount" "I", .classLink RX4 68 RJx00060, .instantiable RJx00060 6, .initialized RJx00060, .fieldLink RX4 29 "UpdatePacks" "digester" "LUpdatePacks$Digester;", .methodLink RX4 75 yX2_resultOctet, .instanceMethod yX2_resultOctet, .selects RX2 yX2_resultOctet yX2_resultOctet, .initialized RX2, .code yX2_resultOctet cX2_resultOctet 2 (some .byte), .fieldLink RX2 17 "UpdatePacks$Digester" "result" "[I"] ++ wsX40 ++ wsJx000600 ++ wsX20 ++ (vx_atM "java/lang/ArrayIndexOutOfBoundsException" ["java/lang/IndexOutOfBoundsException", "java/lang/RuntimeException", "java/lang/Exception"]).filter goodWord)
def wsX4_isPackage : List Cond := .code yX4_isPackage cX4_isPackage 2 (some .boolean) :: ([.fieldLink RX4 51 "UpdatePacks" "packageCount" "I"] ++ wsX40)
def wsX4_findOpen : List Cond := .code yX4_findOpen cX4_findOpen 4 (some (.object "UpdatePacks$Pack")) :: ([.fieldLink RX4 33 "UpdatePacks" "controllerCount" "I", .fieldLink RX4 11 "UpdatePacks" "controllers" "[LUpdatePacks$Controller;", .fieldLink RX4 54 "UpdatePacks$Controller" "pack" "LUpdatePacks$Pack;", .fieldLink RX4 111 "UpdatePacks$Pack" "state" "I", .fieldLink RX4 173 "UpdatePacks$Pack" "number" "I"] ++ wsX40 ++ wsX10 ++ wsX30)
def wsX4_joinSets : List Cond := .code yX4_joinSets cX4_joinSets 6 (some .int) :: ([.fieldLink RX4 33 "UpdatePacks" "controllerCount" "I", .fieldLink RX4 11 "UpdatePacks" "controllers" "[LUpdatePacks$Controller;", .fieldLink RX4 54 "UpdatePacks$Controller" "pack" "LUpdatePacks$Pack;", .fieldLink RX4 90 "UpdatePacks$Pack" "set" "I", .methodLink RX4 179 yX3_isOf, .instanceMethod yX3_isOf, .selects RX3 yX3_isOf yX3_isOf, .initialized RX3, .code yX3_isOf cX3_isOf 2 (some .boolean), .fieldLink RX3 25 "UpdatePacks$Pack" "state" "I", .fieldLink RX3 31 "UpdatePacks$Pack" "set" "I"] ++ wsX40 ++ wsX10 ++ wsX30)
def wsX4_needs_r1 : List Cond := [Cond.fieldLink RX4 87 "UpdatePacks$Pack" "committed" "Z", Cond.fieldLink RX4 90 "UpdatePacks$Pack" "set" "I", Cond.methodLink RX4 79 yX4_isPackage, Cond.instanceMethod yX4_isPackage, Cond.selects RX4 yX4_isPackage yX4_isPackage, Cond.initialized RX4, Cond.code yX4_isPackage cX4_isPackage 2 (some .boolean), Cond.fieldLink RX4 51 "UpdatePacks" "packageCount" "I", Cond.methodLink RX4 83 yX4_findOpen, Cond.instanceMethod yX4_findOpen, Cond.selects RX4 yX4_findOpen yX4_findOpen, Cond.code yX4_findOpen cX4_findOpen 4 (some (.object "UpdatePacks$Pack")), Cond.fieldLink RX4 33 "UpdatePacks" "controllerCount" "I", Cond.fieldLink RX4 11 "UpdatePacks" "controllers" "[LUpdatePacks$Controller;", Cond.fieldLink RX4 54 "UpdatePacks$Controller" "pack" "LUpdatePacks$Pack;", Cond.fieldLink RX4 111 "UpdatePacks$Pack" "state" "I", Cond.fieldLink RX4 173 "UpdatePacks$Pack" "number" "I", Cond.methodLink RX4 93 yX4_joinSets, Cond.instanceMethod yX4_joinSets, Cond.selects RX4 yX4_joinSets yX4_joinSets, Cond.code yX4_joinSets cX4_joinSets 6 (some .int), Cond.methodLink RX4 179 yX3_isOf, Cond.instanceMethod yX3_isOf, Cond.selects RX3 yX3_isOf yX3_isOf]
def wsX4_needs_r2 : List Cond := [Cond.initialized RX3, Cond.code yX3_isOf cX3_isOf 2 (some .boolean), Cond.fieldLink RX3 25 "UpdatePacks$Pack" "state" "I", Cond.fieldLink RX3 31 "UpdatePacks$Pack" "set" "I"]
def wsX4_needs : List Cond := .code yX4_needs cX4_needs 5 (some .int) :: ((wsX4_needs_r1 ++ wsX4_needs_r2) ++ wsX30 ++ wsX40 ++ wsX10)
def wsX4_block : List Cond := .code yX4_block cX4_block 5 (some .int) :: ([.fieldLink RX4 97 "UpdatePacks$Controller" "faultBlock" "I", .fieldLink RX4 100 "UpdatePacks$Controller" "fault" "B", .methodLink RX4 43 yX4_find, .instanceMethod yX4_find, .selects RX4 yX4_find yX4_find, .initialized RX4, .code yX4_find cX4_find 2 (some (.object "UpdatePacks$Controller")), .fieldLink RX4 33 "UpdatePacks" "controllerCount" "I", .fieldLink RX4 11 "UpdatePacks" "controllers" "[LUpdatePacks$Controller;"] ++ wsX10 ++ wsX40)
def wsX4_bothHold : List Cond := .code yX4_bothHold cX4_bothHold 1 (some .boolean) :: ([.fieldLink RX4 19 "UpdatePacks" "parked" "Z", .fieldLink RX4 23 "UpdatePacks" "battery" "Z"] ++ wsX40)
def wsX4_condition : List Cond := .code yX4_condition cX4_condition 3 (some .int) :: ([.fieldLink RX4 19 "UpdatePacks" "parked" "Z", .fieldLink RX4 23 "UpdatePacks" "battery" "Z", .methodLink RX4 104 yX4_bothHold, .instanceMethod yX4_bothHold, .selects RX4 yX4_bothHold yX4_bothHold, .initialized RX4, .code yX4_bothHold cX4_bothHold 1 (some .boolean)] ++ wsX40)
def wsX4_allSwitched : List Cond := .code yX4_allSwitched cX4_allSwitched 4 (some .boolean) :: ([.fieldLink RX4 33 "UpdatePacks" "controllerCount" "I", .fieldLink RX4 11 "UpdatePacks" "controllers" "[LUpdatePacks$Controller;", .fieldLink RX4 54 "UpdatePacks$Controller" "pack" "LUpdatePacks$Pack;", .fieldLink RX4 111 "UpdatePacks$Pack" "state" "I", .methodLink RX4 179 yX3_isOf, .instanceMethod yX3_isOf, .selects RX3 yX3_isOf yX3_isOf, .initialized RX3, .code yX3_isOf cX3_isOf 2 (some .boolean), .fieldLink RX3 25 "UpdatePacks$Pack" "state" "I", .fieldLink RX3 31 "UpdatePacks$Pack" "set" "I"] ++ wsX40 ++ wsX10 ++ wsX30)
def wsX4_makeLastSet : List Cond := .code yX4_makeLastSet cX4_makeLastSet 4 none :: ([.fieldLink RX4 33 "UpdatePacks" "controllerCount" "I", .fieldLink RX4 11 "UpdatePacks" "controllers" "[LUpdatePacks$Controller;", .fieldLink RX4 54 "UpdatePacks$Controller" "pack" "LUpdatePacks$Pack;", .fieldLink RX4 173 "UpdatePacks$Pack" "number" "I", .fieldLink RX4 158 "UpdatePacks$Controller" "lastPack" "I", .fieldLink RX4 111 "UpdatePacks$Pack" "state" "I", .methodLink RX4 179 yX3_isOf, .instanceMethod yX3_isOf, .selects RX3 yX3_isOf yX3_isOf, .initialized RX3, .code yX3_isOf cX3_isOf 2 (some .boolean), .fieldLink RX3 25 "UpdatePacks$Pack" "state" "I", .fieldLink RX3 31 "UpdatePacks$Pack" "set" "I"] ++ wsX40 ++ wsX10 ++ wsX30)
def wsX4_switchBanks_r1 : List Cond := [Cond.fieldLink RX4 54 "UpdatePacks$Controller" "pack" "LUpdatePacks$Pack;", Cond.fieldLink RX4 111 "UpdatePacks$Pack" "state" "I", Cond.fieldLink RX4 90 "UpdatePacks$Pack" "set" "I", Cond.methodLink RX4 164 yX1_runOtherBank, Cond.instanceMethod yX1_runOtherBank, Cond.selects RX1 yX1_runOtherBank yX1_runOtherBank, Cond.initialized RX1, Cond.code yX1_runOtherBank cX1_runOtherBank 1 none, Cond.fieldLink RX1 39 "UpdatePacks$Controller" "running" "I", Cond.fieldLink RX1 17 "UpdatePacks$Controller" "banks" "[LUpdatePacks$Bank;", Cond.fieldLink RX1 42 "UpdatePacks$Bank" "edition" "I", Cond.fieldLink RX1 45 "UpdatePacks$Controller" "counter" "I", Cond.methodLink RX4 188 yX4_allSwitched, Cond.instanceMethod yX4_allSwitched, Cond.selects RX4 yX4_allSwitched yX4_allSwitched, Cond.initialized RX4, Cond.code yX4_allSwitched cX4_allSwitched 4 (some .boolean), Cond.fieldLink RX4 33 "UpdatePacks" "controllerCount" "I", Cond.fieldLink RX4 11 "UpdatePacks" "controllers" "[LUpdatePacks$Controller;", Cond.methodLink RX4 179 yX3_isOf, Cond.instanceMethod yX3_isOf, Cond.selects RX3 yX3_isOf yX3_isOf, Cond.initialized RX3, Cond.code yX3_isOf cX3_isOf 2 (some .boolean)]
def wsX4_switchBanks_r2 : List Cond := [Cond.fieldLink RX3 25 "UpdatePacks$Pack" "state" "I", Cond.fieldLink RX3 31 "UpdatePacks$Pack" "set" "I", Cond.methodLink RX4 191 yX4_makeLastSet, Cond.instanceMethod yX4_makeLastSet, Cond.selects RX4 yX4_makeLastSet yX4_makeLastSet, Cond.code yX4_makeLastSet cX4_makeLastSet 4 none, Cond.fieldLink RX4 173 "UpdatePacks$Pack" "number" "I", Cond.fieldLink RX4 158 "UpdatePacks$Controller" "lastPack" "I"]
def wsX4_switchBanks : List Cond := .code yX4_switchBanks cX4_switchBanks 2 none :: ((wsX4_switchBanks_r1 ++ wsX4_switchBanks_r2) ++ wsX10 ++ wsX30 ++ wsX00 ++ wsX40)
def wsX4_allCanCommit : List Cond := .code yX4_allCanCommit cX4_allCanCommit 4 (some .boolean) :: ([.fieldLink RX4 33 "UpdatePacks" "controllerCount" "I", .fieldLink RX4 11 "UpdatePacks" "controllers" "[LUpdatePacks$Controller;", .fieldLink RX4 54 "UpdatePacks$Controller" "pack" "LUpdatePacks$Pack;", .fieldLink RX4 111 "UpdatePacks$Pack" "state" "I", .methodLink RX4 179 yX3_isOf, .instanceMethod yX3_isOf, .selects RX3 yX3_isOf yX3_isOf, .initialized RX3, .code yX3_isOf cX3_isOf 2 (some .boolean), .fieldLink RX3 25 "UpdatePacks$Pack" "state" "I", .fieldLink RX3 31 "UpdatePacks$Pack" "set" "I", .methodLink RX4 108 yX1_isAway, .instanceMethod yX1_isAway, .selects RX1 yX1_isAway yX1_isAway, .initialized RX1, .code yX1_isAway cX1_isAway 1 (some .boolean), .fieldLink RX1 29 "UpdatePacks$Controller" "off" "Z", .fieldLink RX1 33 "UpdatePacks$Controller" "silent" "Z"] ++ wsX40 ++ wsX10 ++ wsX30)
def wsX4_commit : List Cond := .code yX4_commit cX4_commit 4 none :: ([.fieldLink RX4 33 "UpdatePacks" "controllerCount" "I", .fieldLink RX4 11 "UpdatePacks" "controllers" "[LUpdatePacks$Controller;", .fieldLink RX4 54 "UpdatePacks$Controller" "pack" "LUpdatePacks$Pack;", .fieldLink RX4 87 "UpdatePacks$Pack" "committed" "Z", .methodLink RX4 179 yX3_isOf, .instanceMethod yX3_isOf, .selects RX3 yX3_isOf yX3_isOf, .initialized RX3, .code yX3_isOf cX3_isOf 2 (some .boolean), .fieldLink RX3 25 "UpdatePacks$Pack" "state" "I", .fieldLink RX3 31 "UpdatePacks$Pack" "set" "I"] ++ wsX40 ++ wsX10 ++ wsX30)
def wsX4_stepOfReady_r1 : List Cond := [Cond.fieldLink RX4 54 "UpdatePacks$Controller" "pack" "LUpdatePacks$Pack;", Cond.fieldLink RX4 87 "UpdatePacks$Pack" "committed" "Z", Cond.fieldLink RX4 90 "UpdatePacks$Pack" "set" "I", Cond.methodLink RX4 127 yX4_switchBanks, Cond.instanceMethod yX4_switchBanks, Cond.selects RX4 yX4_switchBanks yX4_switchBanks, Cond.initialized RX4, Cond.code yX4_switchBanks cX4_switchBanks 2 none, Cond.fieldLink RX4 111 "UpdatePacks$Pack" "state" "I", Cond.methodLink RX4 164 yX1_runOtherBank, Cond.instanceMethod yX1_runOtherBank, Cond.selects RX1 yX1_runOtherBank yX1_runOtherBank, Cond.initialized RX1, Cond.code yX1_runOtherBank cX1_runOtherBank 1 none, Cond.fieldLink RX1 39 "UpdatePacks$Controller" "running" "I", Cond.fieldLink RX1 17 "UpdatePacks$Controller" "banks" "[LUpdatePacks$Bank;", Cond.fieldLink RX1 42 "UpdatePacks$Bank" "edition" "I", Cond.fieldLink RX1 45 "UpdatePacks$Controller" "counter" "I", Cond.methodLink RX4 188 yX4_allSwitched, Cond.instanceMethod yX4_allSwitched, Cond.selects RX4 yX4_allSwitched yX4_allSwitched, Cond.code yX4_allSwitched cX4_allSwitched 4 (some .boolean), Cond.fieldLink RX4 33 "UpdatePacks" "controllerCount" "I", Cond.fieldLink RX4 11 "UpdatePacks" "controllers" "[LUpdatePacks$Controller;"]
def wsX4_stepOfReady_r2 : List Cond := [Cond.methodLink RX4 179 yX3_isOf, Cond.instanceMethod yX3_isOf, Cond.selects RX3 yX3_isOf yX3_isOf, Cond.initialized RX3, Cond.code yX3_isOf cX3_isOf 2 (some .boolean), Cond.fieldLink RX3 25 "UpdatePacks$Pack" "state" "I", Cond.fieldLink RX3 31 "UpdatePacks$Pack" "set" "I", Cond.methodLink RX4 191 yX4_makeLastSet, Cond.instanceMethod yX4_makeLastSet, Cond.selects RX4 yX4_makeLastSet yX4_makeLastSet, Cond.code yX4_makeLastSet cX4_makeLastSet 4 none, Cond.fieldLink RX4 173 "UpdatePacks$Pack" "number" "I", Cond.fieldLink RX4 158 "UpdatePacks$Controller" "lastPack" "I", Cond.methodLink RX4 104 yX4_bothHold, Cond.instanceMethod yX4_bothHold, Cond.selects RX4 yX4_bothHold yX4_bothHold, Cond.code yX4_bothHold cX4_bothHold 1 (some .boolean), Cond.fieldLink RX4 19 "UpdatePacks" "parked" "Z", Cond.fieldLink RX4 23 "UpdatePacks" "battery" "Z", Cond.methodLink RX4 182 yX4_allCanCommit, Cond.instanceMethod yX4_allCanCommit, Cond.selects RX4 yX4_allCanCommit yX4_allCanCommit, Cond.code yX4_allCanCommit cX4_allCanCommit 4 (some .boolean), Cond.methodLink RX4 108 yX1_isAway]
def wsX4_stepOfReady_r3 : List Cond := [Cond.instanceMethod yX1_isAway, Cond.selects RX1 yX1_isAway yX1_isAway, Cond.code yX1_isAway cX1_isAway 1 (some .boolean), Cond.fieldLink RX1 29 "UpdatePacks$Controller" "off" "Z", Cond.fieldLink RX1 33 "UpdatePacks$Controller" "silent" "Z", Cond.methodLink RX4 185 yX4_commit, Cond.instanceMethod yX4_commit, Cond.selects RX4 yX4_commit yX4_commit, Cond.code yX4_commit cX4_commit 4 none]
def wsX4_stepOfReady : List Cond := .code yX4_stepOfReady cX4_stepOfReady 2 (some .int) :: ((wsX4_stepOfReady_r1 ++ (wsX4_stepOfReady_r2 ++ wsX4_stepOfReady_r3)) ++ wsX10 ++ wsX30 ++ wsX00 ++ wsX40)
def wsX4_step_r1 : List Cond := [Cond.fieldLink RX4 54 "UpdatePacks$Controller" "pack" "LUpdatePacks$Pack;", Cond.fieldLink RX4 111 "UpdatePacks$Pack" "state" "I", Cond.methodLink RX4 43 yX4_find, Cond.instanceMethod yX4_find, Cond.selects RX4 yX4_find yX4_find, Cond.initialized RX4, Cond.code yX4_find cX4_find 2 (some (.object "UpdatePacks$Controller")), Cond.fieldLink RX4 33 "UpdatePacks" "controllerCount" "I", Cond.fieldLink RX4 11 "UpdatePacks" "controllers" "[LUpdatePacks$Controller;", Cond.methodLink RX4 108 yX1_isAway, Cond.instanceMethod yX1_isAway, Cond.selects RX1 yX1_isAway yX1_isAway, Cond.initialized RX1, Cond.code yX1_isAway cX1_isAway 1 (some .boolean), Cond.fieldLink RX1 29 "UpdatePacks$Controller" "off" "Z", Cond.fieldLink RX1 33 "UpdatePacks$Controller" "silent" "Z", Cond.methodLink RX4 114 yX4_stepOfReady, Cond.instanceMethod yX4_stepOfReady, Cond.selects RX4 yX4_stepOfReady yX4_stepOfReady, Cond.code yX4_stepOfReady cX4_stepOfReady 2 (some .int), Cond.fieldLink RX4 87 "UpdatePacks$Pack" "committed" "Z", Cond.fieldLink RX4 90 "UpdatePacks$Pack" "set" "I", Cond.methodLink RX4 127 yX4_switchBanks, Cond.instanceMethod yX4_switchBanks]
def wsX4_step_r2 : List Cond := [Cond.selects RX4 yX4_switchBanks yX4_switchBanks, Cond.code yX4_switchBanks cX4_switchBanks 2 none, Cond.methodLink RX4 164 yX1_runOtherBank, Cond.instanceMethod yX1_runOtherBank, Cond.selects RX1 yX1_runOtherBank yX1_runOtherBank, Cond.code yX1_runOtherBank cX1_runOtherBank 1 none, Cond.fieldLink RX1 39 "UpdatePacks$Controller" "running" "I", Cond.fieldLink RX1 17 "UpdatePacks$Controller" "banks" "[LUpdatePacks$Bank;", Cond.fieldLink RX1 42 "UpdatePacks$Bank" "edition" "I", Cond.fieldLink RX1 45 "UpdatePacks$Controller" "counter" "I", Cond.methodLink RX4 188 yX4_allSwitched, Cond.instanceMethod yX4_allSwitched, Cond.selects RX4 yX4_allSwitched yX4_allSwitched, Cond.code yX4_allSwitched cX4_allSwitched 4 (some .boolean), Cond.methodLink RX4 179 yX3_isOf, Cond.instanceMethod yX3_isOf, Cond.selects RX3 yX3_isOf yX3_isOf, Cond.initialized RX3, Cond.code yX3_isOf cX3_isOf 2 (some .boolean), Cond.fieldLink RX3 25 "UpdatePacks$Pack" "state" "I", Cond.fieldLink RX3 31 "UpdatePacks$Pack" "set" "I", Cond.methodLink RX4 191 yX4_makeLastSet, Cond.instanceMethod yX4_makeLastSet, Cond.selects RX4 yX4_makeLastSet yX4_makeLastSet]
def wsX4_step_r3 : List Cond := [Cond.code yX4_makeLastSet cX4_makeLastSet 4 none, Cond.fieldLink RX4 173 "UpdatePacks$Pack" "number" "I", Cond.fieldLink RX4 158 "UpdatePacks$Controller" "lastPack" "I", Cond.methodLink RX4 104 yX4_bothHold, Cond.instanceMethod yX4_bothHold, Cond.selects RX4 yX4_bothHold yX4_bothHold, Cond.code yX4_bothHold cX4_bothHold 1 (some .boolean), Cond.fieldLink RX4 19 "UpdatePacks" "parked" "Z", Cond.fieldLink RX4 23 "UpdatePacks" "battery" "Z", Cond.methodLink RX4 182 yX4_allCanCommit, Cond.instanceMethod yX4_allCanCommit, Cond.selects RX4 yX4_allCanCommit yX4_allCanCommit, Cond.code yX4_allCanCommit cX4_allCanCommit 4 (some .boolean), Cond.methodLink RX4 185 yX4_commit, Cond.instanceMethod yX4_commit, Cond.selects RX4 yX4_commit yX4_commit, Cond.code yX4_commit cX4_commit 4 none, Cond.methodLink RX4 118 yX1_writeNextBlock, Cond.instanceMethod yX1_writeNextBlock, Cond.selects RX1 yX1_writeNextBlock yX1_writeNextBlock, Cond.code yX1_writeNextBlock cX1_writeNextBlock 7 none, Cond.fieldLink RX1 25 "UpdatePacks$Controller" "pack" "LUpdatePacks$Pack;", Cond.fieldLink RX1 48 "UpdatePacks$Pack" "written" "I", Cond.fieldLink RX1 51 "UpdatePacks$Pack" "length" "I"]
def wsX4_step_r4 : List Cond := [Cond.methodLink RX1 54 Lib.Math.min.name, Cond.static Lib.Math.min.name, Cond.initialized "java/lang/Math", Cond.code Lib.Math.min.name Lib.Math.min.code 2 (some .int), Cond.fieldLink RX1 60 "UpdatePacks$Controller" "fault" "B", Cond.fieldLink RX1 64 "UpdatePacks$Controller" "faultBlock" "I", Cond.fieldLink RX1 67 "UpdatePacks$Bank" "octets" "[B", Cond.fieldLink RX1 71 "UpdatePacks$Pack" "octets" "[B", Cond.methodLink RX1 72 yX1_completeBank, Cond.instanceMethod yX1_completeBank, Cond.selects RX1 yX1_completeBank yX1_completeBank, Cond.code yX1_completeBank cX1_completeBank 3 none, Cond.fieldLink RX1 76 "UpdatePacks$Pack" "edition" "I", Cond.fieldLink RX1 77 "UpdatePacks$Pack" "number" "I", Cond.fieldLink RX1 80 "UpdatePacks$Bank" "packNumber" "I", Cond.fieldLink RX1 83 "UpdatePacks$Pack" "state" "I"]
def wsX4_step : List Cond := .code yX4_step cX4_step 3 (some .int) :: ((wsX4_step_r1 ++ (wsX4_step_r2 ++ (wsX4_step_r3 ++ wsX4_step_r4))) ++ wsX10 ++ wsX30 ++ wsX40 ++ wsX00 ++ (vx_atM "java/lang/ArrayIndexOutOfBoundsException" ["java/lang/IndexOutOfBoundsException", "java/lang/RuntimeException", "java/lang/Exception"]).filter goodWord)
def wsX4_cut : List Cond := .code yX4_cut cX4_cut 4 (some .int) :: ([.fieldLink RX4 33 "UpdatePacks" "controllerCount" "I", .fieldLink RX4 11 "UpdatePacks" "controllers" "[LUpdatePacks$Controller;", .fieldLink RX4 121 "UpdatePacks$Controller" "off" "Z", .fieldLink RX4 54 "UpdatePacks$Controller" "pack" "LUpdatePacks$Pack;", .methodLink RX4 124 yX3_loseBlock, .instanceMethod yX3_loseBlock, .selects RX3 yX3_loseBlock yX3_loseBlock, .initialized RX3, .code yX3_loseBlock cX3_loseBlock 1 none, .fieldLink RX3 25 "UpdatePacks$Pack" "state" "I", .fieldLink RX3 28 "UpdatePacks$Pack" "written" "I"] ++ wsX40 ++ wsX10 ++ wsX30)
def wsX4_boot_r1 : List Cond := [Cond.fieldLink RX4 121 "UpdatePacks$Controller" "off" "Z", Cond.fieldLink RX4 54 "UpdatePacks$Controller" "pack" "LUpdatePacks$Pack;", Cond.fieldLink RX4 111 "UpdatePacks$Pack" "state" "I", Cond.fieldLink RX4 87 "UpdatePacks$Pack" "committed" "Z", Cond.fieldLink RX4 135 "UpdatePacks$Bank" "edition" "I", Cond.methodLink RX4 43 yX4_find, Cond.instanceMethod yX4_find, Cond.selects RX4 yX4_find yX4_find, Cond.initialized RX4, Cond.code yX4_find cX4_find 2 (some (.object "UpdatePacks$Controller")), Cond.fieldLink RX4 33 "UpdatePacks" "controllerCount" "I", Cond.fieldLink RX4 11 "UpdatePacks" "controllers" "[LUpdatePacks$Controller;", Cond.methodLink RX4 127 yX4_switchBanks, Cond.instanceMethod yX4_switchBanks, Cond.selects RX4 yX4_switchBanks yX4_switchBanks, Cond.code yX4_switchBanks cX4_switchBanks 2 none, Cond.fieldLink RX4 90 "UpdatePacks$Pack" "set" "I", Cond.methodLink RX4 164 yX1_runOtherBank, Cond.instanceMethod yX1_runOtherBank, Cond.selects RX1 yX1_runOtherBank yX1_runOtherBank, Cond.initialized RX1, Cond.code yX1_runOtherBank cX1_runOtherBank 1 none, Cond.fieldLink RX1 39 "UpdatePacks$Controller" "running" "I", Cond.fieldLink RX1 17 "UpdatePacks$Controller" "banks" "[LUpdatePacks$Bank;"]
def wsX4_boot_r2 : List Cond := [Cond.fieldLink RX1 42 "UpdatePacks$Bank" "edition" "I", Cond.fieldLink RX1 45 "UpdatePacks$Controller" "counter" "I", Cond.methodLink RX4 188 yX4_allSwitched, Cond.instanceMethod yX4_allSwitched, Cond.selects RX4 yX4_allSwitched yX4_allSwitched, Cond.code yX4_allSwitched cX4_allSwitched 4 (some .boolean), Cond.methodLink RX4 179 yX3_isOf, Cond.instanceMethod yX3_isOf, Cond.selects RX3 yX3_isOf yX3_isOf, Cond.initialized RX3, Cond.code yX3_isOf cX3_isOf 2 (some .boolean), Cond.fieldLink RX3 25 "UpdatePacks$Pack" "state" "I", Cond.fieldLink RX3 31 "UpdatePacks$Pack" "set" "I", Cond.methodLink RX4 191 yX4_makeLastSet, Cond.instanceMethod yX4_makeLastSet, Cond.selects RX4 yX4_makeLastSet yX4_makeLastSet, Cond.code yX4_makeLastSet cX4_makeLastSet 4 none, Cond.fieldLink RX4 173 "UpdatePacks$Pack" "number" "I", Cond.fieldLink RX4 158 "UpdatePacks$Controller" "lastPack" "I", Cond.methodLink RX4 131 yX1_runningBank, Cond.instanceMethod yX1_runningBank, Cond.selects RX1 yX1_runningBank yX1_runningBank, Cond.code yX1_runningBank cX1_runningBank 1 (some (.object "UpdatePacks$Bank"))]
def wsX4_boot : List Cond := .code yX4_boot cX4_boot 3 (some .int) :: ((wsX4_boot_r1 ++ wsX4_boot_r2) ++ wsX10 ++ wsX30 ++ wsX00 ++ wsX40)
def wsX4_bank : List Cond := .code yX4_bank cX4_bank 6 (some .byte) :: ([.constantLong RX4 140 (256), .classLink RX4 68 RJx00060, .instantiable RJx00060 6, .initialized RJx00060, .fieldLink RX4 144 "UpdatePacks$Controller" "banks" "[LUpdatePacks$Bank;", .fieldLink RX4 148 "UpdatePacks$Bank" "octets" "[B", .methodLink RX4 43 yX4_find, .instanceMethod yX4_find, .selects RX4 yX4_find yX4_find, .initialized RX4, .code yX4_find cX4_find 2 (some (.object "UpdatePacks$Controller")), .fieldLink RX4 33 "UpdatePacks" "controllerCount" "I", .fieldLink RX4 11 "UpdatePacks" "controllers" "[LUpdatePacks$Controller;"] ++ wsJx000600 ++ wsX10 ++ wsX00 ++ wsX40 ++ (vx_atM "java/lang/ArrayIndexOutOfBoundsException" ["java/lang/IndexOutOfBoundsException", "java/lang/RuntimeException", "java/lang/Exception"]).filter goodWord)
def wsX4_hasLastSet : List Cond := .code yX4_hasLastSet cX4_hasLastSet 2 (some .boolean) :: ([.fieldLink RX4 33 "UpdatePacks" "controllerCount" "I", .fieldLink RX4 11 "UpdatePacks" "controllers" "[LUpdatePacks$Controller;", .methodLink RX4 152 yX1_isOfLastSet, .instanceMethod yX1_isOfLastSet, .selects RX1 yX1_isOfLastSet yX1_isOfLastSet, .initialized RX1, .code yX1_isOfLastSet cX1_isOfLastSet 1 (some .boolean), .fieldLink RX1 36 "UpdatePacks$Controller" "lastPack" "I"] ++ wsX40 ++ wsX10)
def wsX4_joint : List Cond := .code yX4_joint cX4_joint 3 (some .int) :: ([.fieldLink RX4 33 "UpdatePacks" "controllerCount" "I", .fieldLink RX4 11 "UpdatePacks" "controllers" "[LUpdatePacks$Controller;", .fieldLink RX4 155 "UpdatePacks$Bank" "packNumber" "I", .fieldLink RX4 158 "UpdatePacks$Controller" "lastPack" "I", .methodLink RX4 149 yX4_hasLastSet, .instanceMethod yX4_hasLastSet, .selects RX4 yX4_hasLastSet yX4_hasLastSet, .initialized RX4, .code yX4_hasLastSet cX4_hasLastSet 2 (some .boolean), .methodLink RX4 152 yX1_isOfLastSet, .instanceMethod yX1_isOfLastSet, .selects RX1 yX1_isOfLastSet yX1_isOfLastSet, .initialized RX1, .code yX1_isOfLastSet cX1_isOfLastSet 1 (some .boolean), .fieldLink RX1 36 "UpdatePacks$Controller" "lastPack" "I", .methodLink RX4 131 yX1_runningBank, .instanceMethod yX1_runningBank, .selects RX1 yX1_runningBank yX1_runningBank, .code yX1_runningBank cX1_runningBank 1 (some (.object "UpdatePacks$Bank")), .fieldLink RX1 17 "UpdatePacks$Controller" "banks" "[LUpdatePacks$Bank;", .fieldLink RX1 39 "UpdatePacks$Controller" "running" "I"] ++ wsX40 ++ wsX00 ++ wsX10)
def wsX4_lastSetMayGoBack : List Cond := .code yX4_lastSetMayGoBack cX4_lastSetMayGoBack 3 (some .boolean) :: ([.fieldLink RX4 33 "UpdatePacks" "controllerCount" "I", .fieldLink RX4 11 "UpdatePacks" "controllers" "[LUpdatePacks$Controller;", .fieldLink RX4 54 "UpdatePacks$Controller" "pack" "LUpdatePacks$Pack;", .fieldLink RX4 111 "UpdatePacks$Pack" "state" "I", .methodLink RX4 152 yX1_isOfLastSet, .instanceMethod yX1_isOfLastSet, .selects RX1 yX1_isOfLastSet yX1_isOfLastSet, .initialized RX1, .code yX1_isOfLastSet cX1_isOfLastSet 1 (some .boolean), .fieldLink RX1 36 "UpdatePacks$Controller" "lastPack" "I", .methodLink RX4 108 yX1_isAway, .instanceMethod yX1_isAway, .selects RX1 yX1_isAway yX1_isAway, .code yX1_isAway cX1_isAway 1 (some .boolean), .fieldLink RX1 29 "UpdatePacks$Controller" "off" "Z", .fieldLink RX1 33 "UpdatePacks$Controller" "silent" "Z"] ++ wsX40 ++ wsX10 ++ wsX30)
def wsX4_rollback_r1 : List Cond := [Cond.fieldLink RX4 33 "UpdatePacks" "controllerCount" "I", Cond.fieldLink RX4 11 "UpdatePacks" "controllers" "[LUpdatePacks$Controller;", Cond.fieldLink RX4 158 "UpdatePacks$Controller" "lastPack" "I", Cond.methodLink RX4 149 yX4_hasLastSet, Cond.instanceMethod yX4_hasLastSet, Cond.selects RX4 yX4_hasLastSet yX4_hasLastSet, Cond.initialized RX4, Cond.code yX4_hasLastSet cX4_hasLastSet 2 (some .boolean), Cond.methodLink RX4 152 yX1_isOfLastSet, Cond.instanceMethod yX1_isOfLastSet, Cond.selects RX1 yX1_isOfLastSet yX1_isOfLastSet, Cond.initialized RX1, Cond.code yX1_isOfLastSet cX1_isOfLastSet 1 (some .boolean), Cond.fieldLink RX1 36 "UpdatePacks$Controller" "lastPack" "I", Cond.methodLink RX4 161 yX4_lastSetMayGoBack, Cond.instanceMethod yX4_lastSetMayGoBack, Cond.selects RX4 yX4_lastSetMayGoBack yX4_lastSetMayGoBack, Cond.code yX4_lastSetMayGoBack cX4_lastSetMayGoBack 3 (some .boolean), Cond.fieldLink RX4 54 "UpdatePacks$Controller" "pack" "LUpdatePacks$Pack;", Cond.fieldLink RX4 111 "UpdatePacks$Pack" "state" "I", Cond.methodLink RX4 108 yX1_isAway, Cond.instanceMethod yX1_isAway, Cond.selects RX1 yX1_isAway yX1_isAway, Cond.code yX1_isAway cX1_isAway 1 (some .boolean)]
def wsX4_rollback_r2 : List Cond := [Cond.fieldLink RX1 29 "UpdatePacks$Controller" "off" "Z", Cond.fieldLink RX1 33 "UpdatePacks$Controller" "silent" "Z", Cond.methodLink RX4 164 yX1_runOtherBank, Cond.instanceMethod yX1_runOtherBank, Cond.selects RX1 yX1_runOtherBank yX1_runOtherBank, Cond.code yX1_runOtherBank cX1_runOtherBank 1 none, Cond.fieldLink RX1 39 "UpdatePacks$Controller" "running" "I", Cond.fieldLink RX1 17 "UpdatePacks$Controller" "banks" "[LUpdatePacks$Bank;", Cond.fieldLink RX1 42 "UpdatePacks$Bank" "edition" "I", Cond.fieldLink RX1 45 "UpdatePacks$Controller" "counter" "I"]
def wsX4_rollback : List Cond := .code yX4_rollback cX4_rollback 3 (some .int) :: ((wsX4_rollback_r1 ++ wsX4_rollback_r2) ++ wsX40 ++ wsX10 ++ wsX30 ++ wsX00)
def wsX4_silent : List Cond := .code yX4_silent cX4_silent 5 (some .int) :: ([.fieldLink RX4 167 "UpdatePacks$Controller" "silent" "Z", .methodLink RX4 43 yX4_find, .instanceMethod yX4_find, .selects RX4 yX4_find yX4_find, .initialized RX4, .code yX4_find cX4_find 2 (some (.object "UpdatePacks$Controller")), .fieldLink RX4 33 "UpdatePacks" "controllerCount" "I", .fieldLink RX4 11 "UpdatePacks" "controllers" "[LUpdatePacks$Controller;"] ++ wsX10 ++ wsX40)
def wsX4_counter : List Cond := .code yX4_counter cX4_counter 3 (some .int) :: ([.fieldLink RX4 170 "UpdatePacks$Controller" "counter" "I", .methodLink RX4 43 yX4_find, .instanceMethod yX4_find, .selects RX4 yX4_find yX4_find, .initialized RX4, .code yX4_find cX4_find 2 (some (.object "UpdatePacks$Controller")), .fieldLink RX4 33 "UpdatePacks" "controllerCount" "I", .fieldLink RX4 11 "UpdatePacks" "controllers" "[LUpdatePacks$Controller;"] ++ wsX10 ++ wsX40)
def wsX5_raise : List Cond := .code yX5_raise cX5_raise 9 none :: ([.fieldLink RX5 80 "UpdatePacksModel" "power" "[I", .fieldLink RX5 83 "UpdatePacksModel" "other" "[I", .constantLong RX5 103 (65535)] ++ wsX50 ++ (vx_atM "java/lang/ArrayIndexOutOfBoundsException" ["java/lang/IndexOutOfBoundsException", "java/lang/RuntimeException", "java/lang/Exception"]).filter goodWord)
def wsX5_root : List Cond := .code yX5_root cX5_root 10 (some .long) :: ([.fieldLink RX5 80 "UpdatePacksModel" "power" "[I", .methodLink RX5 105 yX5_raise, .instanceMethod yX5_raise, .selects RX5 yX5_raise yX5_raise, .initialized RX5, .code yX5_raise cX5_raise 9 none, .fieldLink RX5 83 "UpdatePacksModel" "other" "[I", .constantLong RX5 103 (65535)] ++ wsX50 ++ (vx_atM "java/lang/ArrayIndexOutOfBoundsException" ["java/lang/IndexOutOfBoundsException", "java/lang/RuntimeException", "java/lang/Exception"]).filter goodWord)
def wsX5_init_r1 : List Cond := [Cond.methodLink RX5 1 objectInit, Cond.instanceMethod objectInit, Cond.code objectInit ⟨#[0xb1]⟩ 1 none, Cond.arrayClass .int, Cond.fieldLink RX5 7 "UpdatePacksModel" "hardware" "[I", Cond.fieldLink RX5 13 "UpdatePacksModel" "runs" "[I", Cond.fieldLink RX5 16 "UpdatePacksModel" "counter" "[I", Cond.fieldLink RX5 19 "UpdatePacksModel" "open" "[I", Cond.arrayClass .boolean, Cond.fieldLink RX5 22 "UpdatePacksModel" "off" "[Z", Cond.fieldLink RX5 26 "UpdatePacksModel" "silent" "[Z", Cond.fieldLink RX5 29 "UpdatePacksModel" "faultAt" "[I", Cond.fieldLink RX5 32 "UpdatePacksModel" "fault" "[I", Cond.fieldLink RX5 35 "UpdatePacksModel" "edition" "[I", Cond.fieldLink RX5 38 "UpdatePacksModel" "bank" "[I", Cond.fieldLink RX5 41 "UpdatePacksModel" "of" "[I", Cond.fieldLink RX5 44 "UpdatePacksModel" "to" "[I", Cond.fieldLink RX5 47 "UpdatePacksModel" "length" "[I", Cond.fieldLink RX5 50 "UpdatePacksModel" "state" "[I", Cond.fieldLink RX5 53 "UpdatePacksModel" "written" "[I", Cond.fieldLink RX5 56 "UpdatePacksModel" "in" "[I", Cond.fieldLink RX5 59 "UpdatePacksModel" "set" "[I", Cond.fieldLink RX5 62 "UpdatePacksModel" "committed" "[Z", Cond.fieldLink RX5 65 "UpdatePacksModel" "octets" "[I"]
def wsX5_init_r2 : List Cond := [Cond.fieldLink RX5 68 "UpdatePacksModel" "under" "[I", Cond.fieldLink RX5 71 "UpdatePacksModel" "digest" "[I", Cond.fieldLink RX5 74 "UpdatePacksModel" "roots" "[I", Cond.fieldLink RX5 77 "UpdatePacksModel" "cubes" "[I", Cond.fieldLink RX5 80 "UpdatePacksModel" "power" "[I", Cond.fieldLink RX5 83 "UpdatePacksModel" "other" "[I", Cond.fieldLink RX5 86 "UpdatePacksModel" "hash" "[I", Cond.fieldLink RX5 89 "UpdatePacksModel" "word" "[I", Cond.fieldLink RX5 92 "UpdatePacksModel" "work" "[I", Cond.methodLink RX5 95 yX5_root, Cond.instanceMethod yX5_root, Cond.selects RX5 yX5_root yX5_root, Cond.initialized RX5, Cond.code yX5_root cX5_root 10 (some .long), Cond.methodLink RX5 105 yX5_raise, Cond.instanceMethod yX5_raise, Cond.selects RX5 yX5_raise yX5_raise, Cond.code yX5_raise cX5_raise 9 none, Cond.constantLong RX5 103 (65535)]
def wsX5_init : List Cond := .code yX5_init cX5_init 5 none :: ((wsX5_init_r1 ++ wsX5_init_r2) ++ wsX50 ++ (vx_atM "java/lang/ArrayIndexOutOfBoundsException" ["java/lang/IndexOutOfBoundsException", "java/lang/RuntimeException", "java/lang/Exception"]).filter goodWord)
def wsX5_thrown : List Cond := .code yX5_thrown cX5_thrown 1 (some .int) :: ([.fieldLink RX5 99 "UpdatePacksModel" "code" "I"] ++ wsX50)
def wsX5_turned : List Cond := .code yX5_turned cX5_turned 2 (some .int) :: ([])
def wsX5_padded : List Cond := .code yX5_padded cX5_padded 6 (some .int) :: ([.fieldLink RX5 47 "UpdatePacksModel" "length" "[I", .fieldLink RX5 65 "UpdatePacksModel" "octets" "[I"] ++ wsX50 ++ (vx_atM "java/lang/ArrayIndexOutOfBoundsException" ["java/lang/IndexOutOfBoundsException", "java/lang/RuntimeException", "java/lang/Exception"]).filter goodWord)
def wsX5_at : List Cond := .code yX5_at cX5_at 3 (some .int) :: ([.fieldLink RX5 92 "UpdatePacksModel" "work" "[I"] ++ wsX50 ++ (vx_atM "java/lang/ArrayIndexOutOfBoundsException" ["java/lang/IndexOutOfBoundsException", "java/lang/RuntimeException", "java/lang/Exception"]).filter goodWord)
def wsX5_findDigest : List Cond := .code yX5_findDigest cX5_findDigest 11 none :: ([.fieldLink RX5 47 "UpdatePacksModel" "length" "[I", .fieldLink RX5 86 "UpdatePacksModel" "hash" "[I", .fieldLink RX5 74 "UpdatePacksModel" "roots" "[I", .fieldLink RX5 89 "UpdatePacksModel" "word" "[I", .fieldLink RX5 92 "UpdatePacksModel" "work" "[I", .fieldLink RX5 77 "UpdatePacksModel" "cubes" "[I", .fieldLink RX5 71 "UpdatePacksModel" "digest" "[I", .fieldLink RX5 120 "UpdatePacksModel" "digestLength" "I", .methodLink RX5 109 yX5_padded, .instanceMethod yX5_padded, .selects RX5 yX5_padded yX5_padded, .initialized RX5, .code yX5_padded cX5_padded 6 (some .int), .fieldLink RX5 65 "UpdatePacksModel" "octets" "[I", .methodLink RX5 113 yX5_turned, .static yX5_turned, .code yX5_turned cX5_turned 2 (some .int), .methodLink RX5 117 yX5_at, .instanceMethod yX5_at, .selects RX5 yX5_at yX5_at, .code yX5_at cX5_at 3 (some .int)] ++ wsX50 ++ (vx_atM "java/lang/ArrayIndexOutOfBoundsException" ["java/lang/IndexOutOfBoundsException", "java/lang/RuntimeException", "java/lang/Exception"]).filter goodWord)
def wsX5_none : List Cond := .code yX5_none cX5_none 2 (some .boolean) :: ([.fieldLink RX5 99 "UpdatePacksModel" "code" "I", .fieldLink RX5 123 "UpdatePacksModel" "controllers" "I"] ++ wsX50)
def wsX5_controller : List Cond := .code yX5_controller cX5_controller 2 (some .int) :: ([.fieldLink RX5 99 "UpdatePacksModel" "code" "I", .fieldLink RX5 123 "UpdatePacksModel" "controllers" "I", .fieldLink RX5 7 "UpdatePacksModel" "hardware" "[I", .fieldLink RX5 29 "UpdatePacksModel" "faultAt" "[I"] ++ wsX50 ++ (vx_atM "java/lang/ArrayIndexOutOfBoundsException" ["java/lang/IndexOutOfBoundsException", "java/lang/RuntimeException", "java/lang/Exception"]).filter goodWord)
def wsX5_octet : List Cond := .code yX5_octet cX5_octet 2 none :: ([.fieldLink RX5 99 "UpdatePacksModel" "code" "I", .fieldLink RX5 126 "UpdatePacksModel" "given" "I", .fieldLink RX5 68 "UpdatePacksModel" "under" "[I"] ++ wsX50 ++ (vx_atM "java/lang/ArrayIndexOutOfBoundsException" ["java/lang/IndexOutOfBoundsException", "java/lang/RuntimeException", "java/lang/Exception"]).filter goodWord)
def wsX5_stateOf : List Cond := .code yX5_stateOf cX5_stateOf 2 (some .int) :: ([.fieldLink RX5 19 "UpdatePacksModel" "open" "[I", .fieldLink RX5 50 "UpdatePacksModel" "state" "[I"] ++ wsX50 ++ (vx_atM "java/lang/ArrayIndexOutOfBoundsException" ["java/lang/IndexOutOfBoundsException", "java/lang/RuntimeException", "java/lang/Exception"]).filter goodWord)
def wsX5_there : List Cond := .code yX5_there cX5_there 2 (some .boolean) :: ([.fieldLink RX5 22 "UpdatePacksModel" "off" "[Z", .fieldLink RX5 26 "UpdatePacksModel" "silent" "[Z"] ++ wsX50 ++ (vx_atM "java/lang/ArrayIndexOutOfBoundsException" ["java/lang/IndexOutOfBoundsException", "java/lang/RuntimeException", "java/lang/Exception"]).filter goodWord)
def wsX5_hold : List Cond := .code yX5_hold cX5_hold 1 (some .boolean) :: ([.fieldLink RX5 129 "UpdatePacksModel" "unparked" "Z", .fieldLink RX5 133 "UpdatePacksModel" "empty" "Z"] ++ wsX50)
def wsX5_package0_r1 : List Cond := [Cond.fieldLink RX5 126 "UpdatePacksModel" "given" "I", Cond.fieldLink RX5 144 "UpdatePacksModel" "packages" "I", Cond.fieldLink RX5 68 "UpdatePacksModel" "under" "[I", Cond.fieldLink RX5 7 "UpdatePacksModel" "hardware" "[I", Cond.fieldLink RX5 16 "UpdatePacksModel" "counter" "[I", Cond.fieldLink RX5 19 "UpdatePacksModel" "open" "[I", Cond.fieldLink RX5 59 "UpdatePacksModel" "set" "[I", Cond.fieldLink RX5 41 "UpdatePacksModel" "of" "[I", Cond.fieldLink RX5 44 "UpdatePacksModel" "to" "[I", Cond.fieldLink RX5 47 "UpdatePacksModel" "length" "[I", Cond.fieldLink RX5 50 "UpdatePacksModel" "state" "[I", Cond.fieldLink RX5 65 "UpdatePacksModel" "octets" "[I", Cond.methodLink RX5 136 yX5_none, Cond.instanceMethod yX5_none, Cond.selects RX5 yX5_none yX5_none, Cond.initialized RX5, Cond.code yX5_none cX5_none 2 (some .boolean), Cond.fieldLink RX5 99 "UpdatePacksModel" "code" "I", Cond.fieldLink RX5 123 "UpdatePacksModel" "controllers" "I", Cond.methodLink RX5 140 yX5_stateOf, Cond.instanceMethod yX5_stateOf, Cond.selects RX5 yX5_stateOf yX5_stateOf, Cond.code yX5_stateOf cX5_stateOf 2 (some .int), Cond.methodLink RX5 147 yX5_findDigest]
def wsX5_package0_r2 : List Cond := [Cond.instanceMethod yX5_findDigest, Cond.selects RX5 yX5_findDigest yX5_findDigest, Cond.code yX5_findDigest cX5_findDigest 11 none, Cond.fieldLink RX5 86 "UpdatePacksModel" "hash" "[I", Cond.fieldLink RX5 74 "UpdatePacksModel" "roots" "[I", Cond.fieldLink RX5 89 "UpdatePacksModel" "word" "[I", Cond.fieldLink RX5 92 "UpdatePacksModel" "work" "[I", Cond.fieldLink RX5 77 "UpdatePacksModel" "cubes" "[I", Cond.fieldLink RX5 71 "UpdatePacksModel" "digest" "[I", Cond.fieldLink RX5 120 "UpdatePacksModel" "digestLength" "I", Cond.methodLink RX5 109 yX5_padded, Cond.instanceMethod yX5_padded, Cond.selects RX5 yX5_padded yX5_padded, Cond.code yX5_padded cX5_padded 6 (some .int), Cond.methodLink RX5 113 yX5_turned, Cond.static yX5_turned, Cond.code yX5_turned cX5_turned 2 (some .int), Cond.methodLink RX5 117 yX5_at, Cond.instanceMethod yX5_at, Cond.selects RX5 yX5_at yX5_at, Cond.code yX5_at cX5_at 3 (some .int)]
def wsX5_package0 : List Cond := .code yX5_package0 cX5_package0 5 (some .int) :: ((wsX5_package0_r1 ++ wsX5_package0_r2) ++ wsX50 ++ (vx_atM "java/lang/ArrayIndexOutOfBoundsException" ["java/lang/IndexOutOfBoundsException", "java/lang/RuntimeException", "java/lang/Exception"]).filter goodWord)
def wsX5_digest : List Cond := .code yX5_digest cX5_digest 2 (some .byte) :: ([.fieldLink RX5 120 "UpdatePacksModel" "digestLength" "I", .fieldLink RX5 99 "UpdatePacksModel" "code" "I", .fieldLink RX5 71 "UpdatePacksModel" "digest" "[I"] ++ wsX50 ++ (vx_atM "java/lang/ArrayIndexOutOfBoundsException" ["java/lang/IndexOutOfBoundsException", "java/lang/RuntimeException", "java/lang/Exception"]).filter goodWord)
def wsX5_isOpen : List Cond := .code yX5_isOpen cX5_isOpen 2 (some .boolean) :: ([.fieldLink RX5 19 "UpdatePacksModel" "open" "[I", .fieldLink RX5 41 "UpdatePacksModel" "of" "[I"] ++ wsX50 ++ (vx_atM "java/lang/ArrayIndexOutOfBoundsException" ["java/lang/IndexOutOfBoundsException", "java/lang/RuntimeException", "java/lang/Exception"]).filter goodWord)
def wsX5_needs : List Cond := .code yX5_needs cX5_needs 6 (some .int) :: ([.fieldLink RX5 99 "UpdatePacksModel" "code" "I", .fieldLink RX5 144 "UpdatePacksModel" "packages" "I", .fieldLink RX5 62 "UpdatePacksModel" "committed" "[Z", .fieldLink RX5 59 "UpdatePacksModel" "set" "[I", .methodLink RX5 151 yX5_isOpen, .instanceMethod yX5_isOpen, .selects RX5 yX5_isOpen yX5_isOpen, .initialized RX5, .code yX5_isOpen cX5_isOpen 2 (some .boolean), .fieldLink RX5 19 "UpdatePacksModel" "open" "[I", .fieldLink RX5 41 "UpdatePacksModel" "of" "[I"] ++ wsX50 ++ (vx_atM "java/lang/ArrayIndexOutOfBoundsException" ["java/lang/IndexOutOfBoundsException", "java/lang/RuntimeException", "java/lang/Exception"]).filter goodWord)
def wsX5_block : List Cond := .code yX5_block cX5_block 4 (some .int) :: ([.fieldLink RX5 29 "UpdatePacksModel" "faultAt" "[I", .fieldLink RX5 32 "UpdatePacksModel" "fault" "[I", .methodLink RX5 136 yX5_none, .instanceMethod yX5_none, .selects RX5 yX5_none yX5_none, .initialized RX5, .code yX5_none cX5_none 2 (some .boolean), .fieldLink RX5 99 "UpdatePacksModel" "code" "I", .fieldLink RX5 123 "UpdatePacksModel" "controllers" "I"] ++ wsX50 ++ (vx_atM "java/lang/ArrayIndexOutOfBoundsException" ["java/lang/IndexOutOfBoundsException", "java/lang/RuntimeException", "java/lang/Exception"]).filter goodWord)
def wsX5_condition : List Cond := .code yX5_condition cX5_condition 3 (some .int) :: ([.fieldLink RX5 99 "UpdatePacksModel" "code" "I", .fieldLink RX5 129 "UpdatePacksModel" "unparked" "Z", .fieldLink RX5 133 "UpdatePacksModel" "empty" "Z", .methodLink RX5 154 yX5_hold, .instanceMethod yX5_hold, .selects RX5 yX5_hold yX5_hold, .initialized RX5, .code yX5_hold cX5_hold 1 (some .boolean)] ++ wsX50)
def wsX5_write : List Cond := .code yX5_write cX5_write 8 none :: ([.fieldLink RX5 19 "UpdatePacksModel" "open" "[I", .fieldLink RX5 13 "UpdatePacksModel" "runs" "[I", .fieldLink RX5 29 "UpdatePacksModel" "faultAt" "[I", .fieldLink RX5 53 "UpdatePacksModel" "written" "[I", .fieldLink RX5 47 "UpdatePacksModel" "length" "[I", .fieldLink RX5 38 "UpdatePacksModel" "bank" "[I", .fieldLink RX5 65 "UpdatePacksModel" "octets" "[I", .fieldLink RX5 32 "UpdatePacksModel" "fault" "[I", .fieldLink RX5 35 "UpdatePacksModel" "edition" "[I", .fieldLink RX5 44 "UpdatePacksModel" "to" "[I", .fieldLink RX5 50 "UpdatePacksModel" "state" "[I", .fieldLink RX5 56 "UpdatePacksModel" "in" "[I"] ++ wsX50 ++ (vx_atM "java/lang/ArrayIndexOutOfBoundsException" ["java/lang/IndexOutOfBoundsException", "java/lang/RuntimeException", "java/lang/Exception"]).filter goodWord)
def wsX5_allIn : List Cond := .code yX5_allIn cX5_allIn 5 (some .boolean) :: ([.fieldLink RX5 144 "UpdatePacksModel" "packages" "I", .fieldLink RX5 59 "UpdatePacksModel" "set" "[I", .fieldLink RX5 50 "UpdatePacksModel" "state" "[I", .fieldLink RX5 41 "UpdatePacksModel" "of" "[I", .methodLink RX5 158 yX5_there, .instanceMethod yX5_there, .selects RX5 yX5_there yX5_there, .initialized RX5, .code yX5_there cX5_there 2 (some .boolean), .fieldLink RX5 22 "UpdatePacksModel" "off" "[Z", .fieldLink RX5 26 "UpdatePacksModel" "silent" "[Z"] ++ wsX50 ++ (vx_atM "java/lang/ArrayIndexOutOfBoundsException" ["java/lang/IndexOutOfBoundsException", "java/lang/RuntimeException", "java/lang/Exception"]).filter goodWord)
def wsX5_change : List Cond := .code yX5_change cX5_change 4 none :: ([.fieldLink RX5 19 "UpdatePacksModel" "open" "[I", .fieldLink RX5 13 "UpdatePacksModel" "runs" "[I", .fieldLink RX5 16 "UpdatePacksModel" "counter" "[I", .fieldLink RX5 35 "UpdatePacksModel" "edition" "[I", .fieldLink RX5 50 "UpdatePacksModel" "state" "[I", .fieldLink RX5 59 "UpdatePacksModel" "set" "[I", .fieldLink RX5 165 "UpdatePacksModel" "last" "I", .fieldLink RX5 144 "UpdatePacksModel" "packages" "I", .fieldLink RX5 41 "UpdatePacksModel" "of" "[I", .methodLink RX5 161 yX5_allIn, .instanceMethod yX5_allIn, .selects RX5 yX5_allIn yX5_allIn, .initialized RX5, .code yX5_allIn cX5_allIn 5 (some .boolean), .methodLink RX5 158 yX5_there, .instanceMethod yX5_there, .selects RX5 yX5_there yX5_there, .code yX5_there cX5_there 2 (some .boolean), .fieldLink RX5 22 "UpdatePacksModel" "off" "[Z", .fieldLink RX5 26 "UpdatePacksModel" "silent" "[Z"] ++ wsX50 ++ (vx_atM "java/lang/ArrayIndexOutOfBoundsException" ["java/lang/IndexOutOfBoundsException", "java/lang/RuntimeException", "java/lang/Exception"]).filter goodWord)
def wsX5_step_r1 : List Cond := [Cond.fieldLink RX5 19 "UpdatePacksModel" "open" "[I", Cond.fieldLink RX5 62 "UpdatePacksModel" "committed" "[Z", Cond.fieldLink RX5 59 "UpdatePacksModel" "set" "[I", Cond.methodLink RX5 136 yX5_none, Cond.instanceMethod yX5_none, Cond.selects RX5 yX5_none yX5_none, Cond.initialized RX5, Cond.code yX5_none cX5_none 2 (some .boolean), Cond.fieldLink RX5 99 "UpdatePacksModel" "code" "I", Cond.fieldLink RX5 123 "UpdatePacksModel" "controllers" "I", Cond.methodLink RX5 158 yX5_there, Cond.instanceMethod yX5_there, Cond.selects RX5 yX5_there yX5_there, Cond.code yX5_there cX5_there 2 (some .boolean), Cond.fieldLink RX5 22 "UpdatePacksModel" "off" "[Z", Cond.fieldLink RX5 26 "UpdatePacksModel" "silent" "[Z", Cond.methodLink RX5 140 yX5_stateOf, Cond.instanceMethod yX5_stateOf, Cond.selects RX5 yX5_stateOf yX5_stateOf, Cond.code yX5_stateOf cX5_stateOf 2 (some .int), Cond.fieldLink RX5 50 "UpdatePacksModel" "state" "[I", Cond.methodLink RX5 154 yX5_hold, Cond.instanceMethod yX5_hold, Cond.selects RX5 yX5_hold yX5_hold]
def wsX5_step_r2 : List Cond := [Cond.code yX5_hold cX5_hold 1 (some .boolean), Cond.fieldLink RX5 129 "UpdatePacksModel" "unparked" "Z", Cond.fieldLink RX5 133 "UpdatePacksModel" "empty" "Z", Cond.methodLink RX5 168 yX5_write, Cond.instanceMethod yX5_write, Cond.selects RX5 yX5_write yX5_write, Cond.code yX5_write cX5_write 8 none, Cond.fieldLink RX5 13 "UpdatePacksModel" "runs" "[I", Cond.fieldLink RX5 29 "UpdatePacksModel" "faultAt" "[I", Cond.fieldLink RX5 53 "UpdatePacksModel" "written" "[I", Cond.fieldLink RX5 47 "UpdatePacksModel" "length" "[I", Cond.fieldLink RX5 38 "UpdatePacksModel" "bank" "[I", Cond.fieldLink RX5 65 "UpdatePacksModel" "octets" "[I", Cond.fieldLink RX5 32 "UpdatePacksModel" "fault" "[I", Cond.fieldLink RX5 35 "UpdatePacksModel" "edition" "[I", Cond.fieldLink RX5 44 "UpdatePacksModel" "to" "[I", Cond.fieldLink RX5 56 "UpdatePacksModel" "in" "[I", Cond.methodLink RX5 171 yX5_change, Cond.instanceMethod yX5_change, Cond.selects RX5 yX5_change yX5_change, Cond.code yX5_change cX5_change 4 none, Cond.fieldLink RX5 16 "UpdatePacksModel" "counter" "[I", Cond.fieldLink RX5 165 "UpdatePacksModel" "last" "I", Cond.fieldLink RX5 144 "UpdatePacksModel" "packages" "I"]
def wsX5_step_r3 : List Cond := [Cond.fieldLink RX5 41 "UpdatePacksModel" "of" "[I", Cond.methodLink RX5 161 yX5_allIn, Cond.instanceMethod yX5_allIn, Cond.selects RX5 yX5_allIn yX5_allIn, Cond.code yX5_allIn cX5_allIn 5 (some .boolean)]
def wsX5_step : List Cond := .code yX5_step cX5_step 3 (some .int) :: ((wsX5_step_r1 ++ (wsX5_step_r2 ++ wsX5_step_r3)) ++ wsX50 ++ (vx_atM "java/lang/ArrayIndexOutOfBoundsException" ["java/lang/IndexOutOfBoundsException", "java/lang/RuntimeException", "java/lang/Exception"]).filter goodWord)
def wsX5_cut : List Cond := .code yX5_cut cX5_cut 3 (some .int) :: ([.fieldLink RX5 99 "UpdatePacksModel" "code" "I", .fieldLink RX5 123 "UpdatePacksModel" "controllers" "I", .fieldLink RX5 22 "UpdatePacksModel" "off" "[Z", .fieldLink RX5 53 "UpdatePacksModel" "written" "[I", .fieldLink RX5 19 "UpdatePacksModel" "open" "[I", .methodLink RX5 140 yX5_stateOf, .instanceMethod yX5_stateOf, .selects RX5 yX5_stateOf yX5_stateOf, .initialized RX5, .code yX5_stateOf cX5_stateOf 2 (some .int), .fieldLink RX5 50 "UpdatePacksModel" "state" "[I"] ++ wsX50 ++ (vx_atM "java/lang/ArrayIndexOutOfBoundsException" ["java/lang/IndexOutOfBoundsException", "java/lang/RuntimeException", "java/lang/Exception"]).filter goodWord)
def wsX5_boot_r1 : List Cond := [Cond.fieldLink RX5 22 "UpdatePacksModel" "off" "[Z", Cond.fieldLink RX5 62 "UpdatePacksModel" "committed" "[Z", Cond.fieldLink RX5 59 "UpdatePacksModel" "set" "[I", Cond.fieldLink RX5 19 "UpdatePacksModel" "open" "[I", Cond.fieldLink RX5 35 "UpdatePacksModel" "edition" "[I", Cond.fieldLink RX5 13 "UpdatePacksModel" "runs" "[I", Cond.methodLink RX5 136 yX5_none, Cond.instanceMethod yX5_none, Cond.selects RX5 yX5_none yX5_none, Cond.initialized RX5, Cond.code yX5_none cX5_none 2 (some .boolean), Cond.fieldLink RX5 99 "UpdatePacksModel" "code" "I", Cond.fieldLink RX5 123 "UpdatePacksModel" "controllers" "I", Cond.methodLink RX5 140 yX5_stateOf, Cond.instanceMethod yX5_stateOf, Cond.selects RX5 yX5_stateOf yX5_stateOf, Cond.code yX5_stateOf cX5_stateOf 2 (some .int), Cond.fieldLink RX5 50 "UpdatePacksModel" "state" "[I", Cond.methodLink RX5 171 yX5_change, Cond.instanceMethod yX5_change, Cond.selects RX5 yX5_change yX5_change, Cond.code yX5_change cX5_change 4 none, Cond.fieldLink RX5 16 "UpdatePacksModel" "counter" "[I", Cond.fieldLink RX5 165 "UpdatePacksModel" "last" "I"]
def wsX5_boot_r2 : List Cond := [Cond.fieldLink RX5 144 "UpdatePacksModel" "packages" "I", Cond.fieldLink RX5 41 "UpdatePacksModel" "of" "[I", Cond.methodLink RX5 161 yX5_allIn, Cond.instanceMethod yX5_allIn, Cond.selects RX5 yX5_allIn yX5_allIn, Cond.code yX5_allIn cX5_allIn 5 (some .boolean), Cond.methodLink RX5 158 yX5_there, Cond.instanceMethod yX5_there, Cond.selects RX5 yX5_there yX5_there, Cond.code yX5_there cX5_there 2 (some .boolean), Cond.fieldLink RX5 26 "UpdatePacksModel" "silent" "[Z"]
def wsX5_boot : List Cond := .code yX5_boot cX5_boot 3 (some .int) :: ((wsX5_boot_r1 ++ wsX5_boot_r2) ++ wsX50 ++ (vx_atM "java/lang/ArrayIndexOutOfBoundsException" ["java/lang/IndexOutOfBoundsException", "java/lang/RuntimeException", "java/lang/Exception"]).filter goodWord)
def wsX5_bank : List Cond := .code yX5_bank cX5_bank 5 (some .byte) :: ([.constantLong RX5 174 (255), .fieldLink RX5 99 "UpdatePacksModel" "code" "I", .fieldLink RX5 38 "UpdatePacksModel" "bank" "[I", .methodLink RX5 136 yX5_none, .instanceMethod yX5_none, .selects RX5 yX5_none yX5_none, .initialized RX5, .code yX5_none cX5_none 2 (some .boolean), .fieldLink RX5 123 "UpdatePacksModel" "controllers" "I"] ++ wsX50 ++ (vx_atM "java/lang/ArrayIndexOutOfBoundsException" ["java/lang/IndexOutOfBoundsException", "java/lang/RuntimeException", "java/lang/Exception"]).filter goodWord)
def wsX5_joint : List Cond := .code yX5_joint cX5_joint 3 (some .int) :: ([.fieldLink RX5 99 "UpdatePacksModel" "code" "I", .fieldLink RX5 165 "UpdatePacksModel" "last" "I", .fieldLink RX5 144 "UpdatePacksModel" "packages" "I", .fieldLink RX5 59 "UpdatePacksModel" "set" "[I", .fieldLink RX5 13 "UpdatePacksModel" "runs" "[I", .fieldLink RX5 41 "UpdatePacksModel" "of" "[I", .fieldLink RX5 56 "UpdatePacksModel" "in" "[I"] ++ wsX50 ++ (vx_atM "java/lang/ArrayIndexOutOfBoundsException" ["java/lang/IndexOutOfBoundsException", "java/lang/RuntimeException", "java/lang/Exception"]).filter goodWord)
def wsX5_rollback : List Cond := .code yX5_rollback cX5_rollback 4 (some .int) :: ([.fieldLink RX5 99 "UpdatePacksModel" "code" "I", .fieldLink RX5 165 "UpdatePacksModel" "last" "I", .fieldLink RX5 144 "UpdatePacksModel" "packages" "I", .fieldLink RX5 59 "UpdatePacksModel" "set" "[I", .fieldLink RX5 41 "UpdatePacksModel" "of" "[I", .fieldLink RX5 19 "UpdatePacksModel" "open" "[I", .fieldLink RX5 13 "UpdatePacksModel" "runs" "[I", .fieldLink RX5 16 "UpdatePacksModel" "counter" "[I", .fieldLink RX5 35 "UpdatePacksModel" "edition" "[I", .methodLink RX5 158 yX5_there, .instanceMethod yX5_there, .selects RX5 yX5_there yX5_there, .initialized RX5, .code yX5_there cX5_there 2 (some .boolean), .fieldLink RX5 22 "UpdatePacksModel" "off" "[Z", .fieldLink RX5 26 "UpdatePacksModel" "silent" "[Z"] ++ wsX50 ++ (vx_atM "java/lang/ArrayIndexOutOfBoundsException" ["java/lang/IndexOutOfBoundsException", "java/lang/RuntimeException", "java/lang/Exception"]).filter goodWord)
def wsX5_silent : List Cond := .code yX5_silent cX5_silent 4 (some .int) :: ([.fieldLink RX5 26 "UpdatePacksModel" "silent" "[Z", .methodLink RX5 136 yX5_none, .instanceMethod yX5_none, .selects RX5 yX5_none yX5_none, .initialized RX5, .code yX5_none cX5_none 2 (some .boolean), .fieldLink RX5 99 "UpdatePacksModel" "code" "I", .fieldLink RX5 123 "UpdatePacksModel" "controllers" "I"] ++ wsX50 ++ (vx_atM "java/lang/ArrayIndexOutOfBoundsException" ["java/lang/IndexOutOfBoundsException", "java/lang/RuntimeException", "java/lang/Exception"]).filter goodWord)
def wsX5_counter : List Cond := .code yX5_counter cX5_counter 2 (some .int) :: ([.fieldLink RX5 16 "UpdatePacksModel" "counter" "[I", .methodLink RX5 136 yX5_none, .instanceMethod yX5_none, .selects RX5 yX5_none yX5_none, .initialized RX5, .code yX5_none cX5_none 2 (some .boolean), .fieldLink RX5 99 "UpdatePacksModel" "code" "I", .fieldLink RX5 123 "UpdatePacksModel" "controllers" "I"] ++ wsX50 ++ (vx_atM "java/lang/ArrayIndexOutOfBoundsException" ["java/lang/IndexOutOfBoundsException", "java/lang/RuntimeException", "java/lang/Exception"]).filter goodWord)
def wsJx00060_init_a7421 : List Cond := .code yJx00060_init_a7421 cJx00060_init_a7421 2 none :: ([])
def wsJ9_min_7cf53 : List Cond := .code yJ9_min_7cf53 cJ9_min_7cf53 2 (some .int) :: ([])
def wsL_digest : List Cond := .codeWith yL_digest cL_digest 4 (some .int) [(0, 9, 12, 13)] :: ([.classLink RL 13 "java/lang/ArrayIndexOutOfBoundsException", .methodLink RL 7 yX4_digest, .instanceMethod yX4_digest, .selects RX4 yX4_digest yX4_digest, .initialized RX4, .code yX4_digest cX4_digest 2 (some .byte), .fieldLink RX4 51 "UpdatePacks" "packageCount" "I", .classLink RX4 68 RJx00060, .instantiable RJx00060 6, .initialized RJx00060, .fieldLink RX4 29 "UpdatePacks" "digester" "LUpdatePacks$Digester;", .methodLink RX4 75 yX2_resultOctet, .instanceMethod yX2_resultOctet, .selects RX2 yX2_resultOctet yX2_resultOctet, .initialized RX2, .code yX2_resultOctet cX2_resultOctet 2 (some .byte), .fieldLink RX2 17 "UpdatePacks$Digester" "result" "[I"] ++ wsX40 ++ wsJx000600 ++ wsX20 ++ (vx_atM "java/lang/ArrayIndexOutOfBoundsException" ["java/lang/IndexOutOfBoundsException", "java/lang/RuntimeException", "java/lang/Exception"]).filter goodWord)
def wsL_bank : List Cond := .codeWith yL_bank cL_bank 7 (some .int) [(0, 12, 15, 13)] :: ([.classLink RL 13 "java/lang/ArrayIndexOutOfBoundsException", .methodLink RL 15 yX4_bank, .instanceMethod yX4_bank, .selects RX4 yX4_bank yX4_bank, .initialized RX4, .code yX4_bank cX4_bank 6 (some .byte), .constantLong RX4 140 (256), .classLink RX4 68 RJx00060, .instantiable RJx00060 6, .initialized RJx00060, .fieldLink RX4 144 "UpdatePacks$Controller" "banks" "[LUpdatePacks$Bank;", .fieldLink RX4 148 "UpdatePacks$Bank" "octets" "[B", .methodLink RX4 43 yX4_find, .instanceMethod yX4_find, .selects RX4 yX4_find yX4_find, .code yX4_find cX4_find 2 (some (.object "UpdatePacks$Controller")), .fieldLink RX4 33 "UpdatePacks" "controllerCount" "I", .fieldLink RX4 11 "UpdatePacks" "controllers" "[LUpdatePacks$Controller;"] ++ wsJx000600 ++ wsX10 ++ wsX00 ++ wsX40 ++ (vx_atM "java/lang/ArrayIndexOutOfBoundsException" ["java/lang/IndexOutOfBoundsException", "java/lang/RuntimeException", "java/lang/Exception"]).filter goodWord)
def wsL_law0_r1 : List Cond := [Cond.classLink RL 8 RX4, Cond.instantiable RX4 8, Cond.initialized RX4, Cond.classLink RL 20 RX5, Cond.instantiable RX5 36, Cond.initialized RX5, Cond.arrayClass .long, Cond.constantLong RL 75 (4294967295), Cond.methodLink RL 19 yX4_init, Cond.instanceMethod yX4_init, Cond.code yX4_init cX4_init 1 none, Cond.methodLink RX4 1 objectInit, Cond.instanceMethod objectInit, Cond.code objectInit ⟨#[0xb1]⟩ 1 none, Cond.classLink RX4 9 RX1, Cond.fieldLink RX4 11 "UpdatePacks" "controllers" "[LUpdatePacks$Controller;", Cond.arrayClass .byte, Cond.fieldLink RX4 15 "UpdatePacks" "octets" "[B", Cond.fieldLink RX4 19 "UpdatePacks" "parked" "Z", Cond.fieldLink RX4 23 "UpdatePacks" "battery" "Z", Cond.classLink RX4 26 RX2, Cond.instantiable RX2 3, Cond.initialized RX2, Cond.fieldLink RX4 29 "UpdatePacks" "digester" "LUpdatePacks$Digester;"]
def wsL_law0_r2 : List Cond := [Cond.methodLink RX4 28 yX2_init, Cond.instanceMethod yX2_init, Cond.code yX2_init cX2_init 1 none, Cond.methodLink RX2 1 objectInit, Cond.fieldLink RX2 9 "UpdatePacks$Digester" "message" "[B", Cond.arrayClass .int, Cond.fieldLink RX2 13 "UpdatePacks$Digester" "schedule" "[I", Cond.fieldLink RX2 17 "UpdatePacks$Digester" "result" "[I", Cond.methodLink RL 22 yX5_init, Cond.instanceMethod yX5_init, Cond.code yX5_init cX5_init 5 none, Cond.methodLink RX5 1 objectInit, Cond.fieldLink RX5 7 "UpdatePacksModel" "hardware" "[I", Cond.fieldLink RX5 13 "UpdatePacksModel" "runs" "[I", Cond.fieldLink RX5 16 "UpdatePacksModel" "counter" "[I", Cond.fieldLink RX5 19 "UpdatePacksModel" "open" "[I", Cond.arrayClass .boolean, Cond.fieldLink RX5 22 "UpdatePacksModel" "off" "[Z", Cond.fieldLink RX5 26 "UpdatePacksModel" "silent" "[Z", Cond.fieldLink RX5 29 "UpdatePacksModel" "faultAt" "[I", Cond.fieldLink RX5 32 "UpdatePacksModel" "fault" "[I", Cond.fieldLink RX5 35 "UpdatePacksModel" "edition" "[I", Cond.fieldLink RX5 38 "UpdatePacksModel" "bank" "[I", Cond.fieldLink RX5 41 "UpdatePacksModel" "of" "[I"]
def wsL_law0_r3 : List Cond := [Cond.fieldLink RX5 44 "UpdatePacksModel" "to" "[I", Cond.fieldLink RX5 47 "UpdatePacksModel" "length" "[I", Cond.fieldLink RX5 50 "UpdatePacksModel" "state" "[I", Cond.fieldLink RX5 53 "UpdatePacksModel" "written" "[I", Cond.fieldLink RX5 56 "UpdatePacksModel" "in" "[I", Cond.fieldLink RX5 59 "UpdatePacksModel" "set" "[I", Cond.fieldLink RX5 62 "UpdatePacksModel" "committed" "[Z", Cond.fieldLink RX5 65 "UpdatePacksModel" "octets" "[I", Cond.fieldLink RX5 68 "UpdatePacksModel" "under" "[I", Cond.fieldLink RX5 71 "UpdatePacksModel" "digest" "[I", Cond.fieldLink RX5 74 "UpdatePacksModel" "roots" "[I", Cond.fieldLink RX5 77 "UpdatePacksModel" "cubes" "[I", Cond.fieldLink RX5 80 "UpdatePacksModel" "power" "[I", Cond.fieldLink RX5 83 "UpdatePacksModel" "other" "[I", Cond.fieldLink RX5 86 "UpdatePacksModel" "hash" "[I", Cond.fieldLink RX5 89 "UpdatePacksModel" "word" "[I", Cond.fieldLink RX5 92 "UpdatePacksModel" "work" "[I", Cond.methodLink RX5 95 yX5_root, Cond.instanceMethod yX5_root, Cond.selects RX5 yX5_root yX5_root, Cond.code yX5_root cX5_root 10 (some .long), Cond.methodLink RX5 105 yX5_raise, Cond.instanceMethod yX5_raise, Cond.selects RX5 yX5_raise yX5_raise]
def wsL_law0_r4 : List Cond := [Cond.code yX5_raise cX5_raise 9 none, Cond.constantLong RX5 103 (65535), Cond.methodLink RL 23 yX4_controller, Cond.instanceMethod yX4_controller, Cond.selects RX4 yX4_controller yX4_controller, Cond.code yX4_controller cX4_controller 2 (some .int), Cond.fieldLink RX4 33 "UpdatePacks" "controllerCount" "I", Cond.instantiable RX1 10, Cond.initialized RX1, Cond.methodLink RX4 37 yX1_init, Cond.instanceMethod yX1_init, Cond.code yX1_init cX1_init 2 none, Cond.methodLink RX1 3 objectInit, Cond.fieldLink RX1 9 "UpdatePacks$Controller" "hardware" "I", Cond.classLink RX1 15 RX0, Cond.fieldLink RX1 17 "UpdatePacks$Controller" "banks" "[LUpdatePacks$Bank;", Cond.instantiable RX0 3, Cond.initialized RX0, Cond.classLink RX1 22 RX3, Cond.instantiable RX3 8, Cond.initialized RX3, Cond.fieldLink RX1 25 "UpdatePacks$Controller" "pack" "LUpdatePacks$Pack;", Cond.methodLink RX1 21 yX0_init, Cond.instanceMethod yX0_init]
def wsL_law0_r5 : List Cond := [Cond.code yX0_init cX0_init 1 none, Cond.methodLink RX0 3 objectInit, Cond.fieldLink RX0 9 "UpdatePacks$Bank" "octets" "[B", Cond.methodLink RX1 24 yX3_init, Cond.instanceMethod yX3_init, Cond.code yX3_init cX3_init 1 none, Cond.methodLink RX3 3 objectInit, Cond.fieldLink RX3 9 "UpdatePacks$Pack" "octets" "[B", Cond.methodLink RL 27 yX5_controller, Cond.instanceMethod yX5_controller, Cond.selects RX5 yX5_controller yX5_controller, Cond.code yX5_controller cX5_controller 2 (some .int), Cond.fieldLink RX5 99 "UpdatePacksModel" "code" "I", Cond.fieldLink RX5 123 "UpdatePacksModel" "controllers" "I", Cond.methodLink RL 28 yX4_octet, Cond.instanceMethod yX4_octet, Cond.selects RX4 yX4_octet yX4_octet, Cond.code yX4_octet cX4_octet 2 none, Cond.fieldLink RX4 40 "UpdatePacks" "octetCount" "I", Cond.methodLink RL 32 yX5_octet, Cond.instanceMethod yX5_octet, Cond.selects RX5 yX5_octet yX5_octet, Cond.code yX5_octet cX5_octet 2 none, Cond.fieldLink RX5 126 "UpdatePacksModel" "given" "I"]
def wsL_law0_r6 : List Cond := [Cond.methodLink RL 33 yX4_package0, Cond.instanceMethod yX4_package0, Cond.selects RX4 yX4_package0 yX4_package0, Cond.code yX4_package0 cX4_package0 6 (some .int), Cond.fieldLink RX4 51 "UpdatePacks" "packageCount" "I", Cond.fieldLink RX4 54 "UpdatePacks$Controller" "pack" "LUpdatePacks$Pack;", Cond.methodLink RX4 43 yX4_find, Cond.instanceMethod yX4_find, Cond.selects RX4 yX4_find yX4_find, Cond.code yX4_find cX4_find 2 (some (.object "UpdatePacks$Controller")), Cond.methodLink RX4 47 yX4_refusalOf, Cond.instanceMethod yX4_refusalOf, Cond.selects RX4 yX4_refusalOf yX4_refusalOf, Cond.code yX4_refusalOf cX4_refusalOf 4 (some .int), Cond.fieldLink RX4 111 "UpdatePacks$Pack" "state" "I", Cond.fieldLink RX4 176 "UpdatePacks$Controller" "hardware" "I", Cond.fieldLink RX4 170 "UpdatePacks$Controller" "counter" "I", Cond.methodLink RX4 58 yX3_begin, Cond.instanceMethod yX3_begin, Cond.selects RX3 yX3_begin yX3_begin, Cond.code yX3_begin cX3_begin 6 none, Cond.fieldLink RX3 15 "UpdatePacks$Pack" "length" "I", Cond.fieldLink RX3 19 "UpdatePacks$Pack" "number" "I", Cond.fieldLink RX3 22 "UpdatePacks$Pack" "edition" "I"]
def wsL_law0_r7 : List Cond := [Cond.fieldLink RX3 25 "UpdatePacks$Pack" "state" "I", Cond.fieldLink RX3 28 "UpdatePacks$Pack" "written" "I", Cond.fieldLink RX3 31 "UpdatePacks$Pack" "set" "I", Cond.fieldLink RX3 34 "UpdatePacks$Pack" "committed" "Z", Cond.methodLink RX4 64 yX2_digestOf, Cond.instanceMethod yX2_digestOf, Cond.selects RX2 yX2_digestOf yX2_digestOf, Cond.code yX2_digestOf cX2_digestOf 5 none, Cond.fieldLink RX2 24 "UpdatePacks$Digester" "SQUARE_ROOTS" "[I", Cond.methodLink RX2 20 yX2_layOut, Cond.instanceMethod yX2_layOut, Cond.selects RX2 yX2_layOut yX2_layOut, Cond.code yX2_layOut cX2_layOut 7 (some .int), Cond.constantLong RX2 34 (8), Cond.methodLink RX2 27 yX2_fillSchedule, Cond.instanceMethod yX2_fillSchedule, Cond.selects RX2 yX2_fillSchedule yX2_fillSchedule, Cond.code yX2_fillSchedule cX2_fillSchedule 3 none, Cond.methodLink RX2 36 yX2_wordAt, Cond.instanceMethod yX2_wordAt, Cond.selects RX2 yX2_wordAt yX2_wordAt, Cond.code yX2_wordAt cX2_wordAt 2 (some .int), Cond.methodLink RX2 40 yX2_spread, Cond.static yX2_spread]
def wsL_law0_r8 : List Cond := [Cond.code yX2_spread cX2_spread 4 (some .int), Cond.methodLink RX2 50 yX2_turned, Cond.static yX2_turned, Cond.code yX2_turned cX2_turned 2 (some .int), Cond.methodLink RX2 31 yX2_mix, Cond.instanceMethod yX2_mix, Cond.selects RX2 yX2_mix yX2_mix, Cond.code yX2_mix cX2_mix 12 none, Cond.fieldLink RX2 47 "UpdatePacks$Digester" "CUBE_ROOTS" "[I", Cond.methodLink RX2 44 yX2_turns, Cond.static yX2_turns, Cond.code yX2_turns cX2_turns 4 (some .int), Cond.methodLink RL 37 yX5_package0, Cond.instanceMethod yX5_package0, Cond.selects RX5 yX5_package0 yX5_package0, Cond.code yX5_package0 cX5_package0 5 (some .int), Cond.fieldLink RX5 144 "UpdatePacksModel" "packages" "I", Cond.methodLink RX5 136 yX5_none, Cond.instanceMethod yX5_none, Cond.selects RX5 yX5_none yX5_none, Cond.code yX5_none cX5_none 2 (some .boolean), Cond.methodLink RX5 140 yX5_stateOf, Cond.instanceMethod yX5_stateOf, Cond.selects RX5 yX5_stateOf yX5_stateOf]
def wsL_law0_r9 : List Cond := [Cond.code yX5_stateOf cX5_stateOf 2 (some .int), Cond.methodLink RX5 147 yX5_findDigest, Cond.instanceMethod yX5_findDigest, Cond.selects RX5 yX5_findDigest yX5_findDigest, Cond.code yX5_findDigest cX5_findDigest 11 none, Cond.fieldLink RX5 120 "UpdatePacksModel" "digestLength" "I", Cond.methodLink RX5 109 yX5_padded, Cond.instanceMethod yX5_padded, Cond.selects RX5 yX5_padded yX5_padded, Cond.code yX5_padded cX5_padded 6 (some .int), Cond.methodLink RX5 113 yX5_turned, Cond.static yX5_turned, Cond.code yX5_turned cX5_turned 2 (some .int), Cond.methodLink RX5 117 yX5_at, Cond.instanceMethod yX5_at, Cond.selects RX5 yX5_at yX5_at, Cond.code yX5_at cX5_at 3 (some .int), Cond.methodLink RL 38 yL_digest, Cond.static yL_digest, Cond.initialized RL, Cond.codeWith yL_digest cL_digest 4 (some .int) [(0, 9, 12, 13)], Cond.classLink RL 13 "java/lang/ArrayIndexOutOfBoundsException", Cond.methodLink RL 7 yX4_digest, Cond.instanceMethod yX4_digest]
def wsL_law0_r10 : List Cond := [Cond.selects RX4 yX4_digest yX4_digest, Cond.code yX4_digest cX4_digest 2 (some .byte), Cond.classLink RX4 68 RJx00060, Cond.instantiable RJx00060 6, Cond.initialized RJx00060, Cond.methodLink RX4 75 yX2_resultOctet, Cond.instanceMethod yX2_resultOctet, Cond.selects RX2 yX2_resultOctet yX2_resultOctet, Cond.code yX2_resultOctet cX2_resultOctet 2 (some .byte), Cond.methodLink RL 43 yX5_digest, Cond.instanceMethod yX5_digest, Cond.selects RX5 yX5_digest yX5_digest, Cond.code yX5_digest cX5_digest 2 (some .byte), Cond.methodLink RL 44 yX5_thrown, Cond.instanceMethod yX5_thrown, Cond.selects RX5 yX5_thrown yX5_thrown, Cond.code yX5_thrown cX5_thrown 1 (some .int), Cond.methodLink RL 48 yX4_needs, Cond.instanceMethod yX4_needs, Cond.selects RX4 yX4_needs yX4_needs, Cond.code yX4_needs cX4_needs 5 (some .int), Cond.fieldLink RX4 87 "UpdatePacks$Pack" "committed" "Z", Cond.fieldLink RX4 90 "UpdatePacks$Pack" "set" "I", Cond.methodLink RX4 79 yX4_isPackage]
def wsL_law0_r11 : List Cond := [Cond.instanceMethod yX4_isPackage, Cond.selects RX4 yX4_isPackage yX4_isPackage, Cond.code yX4_isPackage cX4_isPackage 2 (some .boolean), Cond.methodLink RX4 83 yX4_findOpen, Cond.instanceMethod yX4_findOpen, Cond.selects RX4 yX4_findOpen yX4_findOpen, Cond.code yX4_findOpen cX4_findOpen 4 (some (.object "UpdatePacks$Pack")), Cond.fieldLink RX4 173 "UpdatePacks$Pack" "number" "I", Cond.methodLink RX4 93 yX4_joinSets, Cond.instanceMethod yX4_joinSets, Cond.selects RX4 yX4_joinSets yX4_joinSets, Cond.code yX4_joinSets cX4_joinSets 6 (some .int), Cond.methodLink RX4 179 yX3_isOf, Cond.instanceMethod yX3_isOf, Cond.selects RX3 yX3_isOf yX3_isOf, Cond.code yX3_isOf cX3_isOf 2 (some .boolean), Cond.methodLink RL 52 yX5_needs, Cond.instanceMethod yX5_needs, Cond.selects RX5 yX5_needs yX5_needs, Cond.code yX5_needs cX5_needs 6 (some .int), Cond.methodLink RX5 151 yX5_isOpen, Cond.instanceMethod yX5_isOpen, Cond.selects RX5 yX5_isOpen yX5_isOpen, Cond.code yX5_isOpen cX5_isOpen 2 (some .boolean)]
def wsL_law0_r12 : List Cond := [Cond.methodLink RL 53 yX4_block, Cond.instanceMethod yX4_block, Cond.selects RX4 yX4_block yX4_block, Cond.code yX4_block cX4_block 5 (some .int), Cond.fieldLink RX4 97 "UpdatePacks$Controller" "faultBlock" "I", Cond.fieldLink RX4 100 "UpdatePacks$Controller" "fault" "B", Cond.methodLink RL 57 yX5_block, Cond.instanceMethod yX5_block, Cond.selects RX5 yX5_block yX5_block, Cond.code yX5_block cX5_block 4 (some .int), Cond.methodLink RL 58 yX4_condition, Cond.instanceMethod yX4_condition, Cond.selects RX4 yX4_condition yX4_condition, Cond.code yX4_condition cX4_condition 3 (some .int), Cond.methodLink RX4 104 yX4_bothHold, Cond.instanceMethod yX4_bothHold, Cond.selects RX4 yX4_bothHold yX4_bothHold, Cond.code yX4_bothHold cX4_bothHold 1 (some .boolean), Cond.methodLink RL 62 yX5_condition, Cond.instanceMethod yX5_condition, Cond.selects RX5 yX5_condition yX5_condition, Cond.code yX5_condition cX5_condition 3 (some .int), Cond.fieldLink RX5 129 "UpdatePacksModel" "unparked" "Z", Cond.fieldLink RX5 133 "UpdatePacksModel" "empty" "Z"]
def wsL_law0_r13 : List Cond := [Cond.methodLink RX5 154 yX5_hold, Cond.instanceMethod yX5_hold, Cond.selects RX5 yX5_hold yX5_hold, Cond.code yX5_hold cX5_hold 1 (some .boolean), Cond.methodLink RL 63 yX4_step, Cond.instanceMethod yX4_step, Cond.selects RX4 yX4_step yX4_step, Cond.code yX4_step cX4_step 3 (some .int), Cond.methodLink RX4 108 yX1_isAway, Cond.instanceMethod yX1_isAway, Cond.selects RX1 yX1_isAway yX1_isAway, Cond.code yX1_isAway cX1_isAway 1 (some .boolean), Cond.fieldLink RX1 29 "UpdatePacks$Controller" "off" "Z", Cond.fieldLink RX1 33 "UpdatePacks$Controller" "silent" "Z", Cond.methodLink RX4 114 yX4_stepOfReady, Cond.instanceMethod yX4_stepOfReady, Cond.selects RX4 yX4_stepOfReady yX4_stepOfReady, Cond.code yX4_stepOfReady cX4_stepOfReady 2 (some .int), Cond.methodLink RX4 127 yX4_switchBanks, Cond.instanceMethod yX4_switchBanks, Cond.selects RX4 yX4_switchBanks yX4_switchBanks, Cond.code yX4_switchBanks cX4_switchBanks 2 none, Cond.methodLink RX4 164 yX1_runOtherBank, Cond.instanceMethod yX1_runOtherBank]
def wsL_law0_r14 : List Cond := [Cond.selects RX1 yX1_runOtherBank yX1_runOtherBank, Cond.code yX1_runOtherBank cX1_runOtherBank 1 none, Cond.fieldLink RX1 39 "UpdatePacks$Controller" "running" "I", Cond.fieldLink RX1 42 "UpdatePacks$Bank" "edition" "I", Cond.fieldLink RX1 45 "UpdatePacks$Controller" "counter" "I", Cond.methodLink RX4 188 yX4_allSwitched, Cond.instanceMethod yX4_allSwitched, Cond.selects RX4 yX4_allSwitched yX4_allSwitched, Cond.code yX4_allSwitched cX4_allSwitched 4 (some .boolean), Cond.methodLink RX4 191 yX4_makeLastSet, Cond.instanceMethod yX4_makeLastSet, Cond.selects RX4 yX4_makeLastSet yX4_makeLastSet, Cond.code yX4_makeLastSet cX4_makeLastSet 4 none, Cond.fieldLink RX4 158 "UpdatePacks$Controller" "lastPack" "I", Cond.methodLink RX4 182 yX4_allCanCommit, Cond.instanceMethod yX4_allCanCommit, Cond.selects RX4 yX4_allCanCommit yX4_allCanCommit, Cond.code yX4_allCanCommit cX4_allCanCommit 4 (some .boolean), Cond.methodLink RX4 185 yX4_commit, Cond.instanceMethod yX4_commit, Cond.selects RX4 yX4_commit yX4_commit, Cond.code yX4_commit cX4_commit 4 none, Cond.methodLink RX4 118 yX1_writeNextBlock, Cond.instanceMethod yX1_writeNextBlock]
def wsL_law0_r15 : List Cond := [Cond.selects RX1 yX1_writeNextBlock yX1_writeNextBlock, Cond.code yX1_writeNextBlock cX1_writeNextBlock 7 none, Cond.fieldLink RX1 48 "UpdatePacks$Pack" "written" "I", Cond.fieldLink RX1 51 "UpdatePacks$Pack" "length" "I", Cond.methodLink RX1 54 Lib.Math.min.name, Cond.static Lib.Math.min.name, Cond.initialized "java/lang/Math", Cond.code Lib.Math.min.name Lib.Math.min.code 2 (some .int), Cond.fieldLink RX1 60 "UpdatePacks$Controller" "fault" "B", Cond.fieldLink RX1 64 "UpdatePacks$Controller" "faultBlock" "I", Cond.fieldLink RX1 67 "UpdatePacks$Bank" "octets" "[B", Cond.fieldLink RX1 71 "UpdatePacks$Pack" "octets" "[B", Cond.methodLink RX1 72 yX1_completeBank, Cond.instanceMethod yX1_completeBank, Cond.selects RX1 yX1_completeBank yX1_completeBank, Cond.code yX1_completeBank cX1_completeBank 3 none, Cond.fieldLink RX1 76 "UpdatePacks$Pack" "edition" "I", Cond.fieldLink RX1 77 "UpdatePacks$Pack" "number" "I", Cond.fieldLink RX1 80 "UpdatePacks$Bank" "packNumber" "I", Cond.fieldLink RX1 83 "UpdatePacks$Pack" "state" "I", Cond.methodLink RL 66 yX5_step, Cond.instanceMethod yX5_step, Cond.selects RX5 yX5_step yX5_step, Cond.code yX5_step cX5_step 3 (some .int)]
def wsL_law0_r16 : List Cond := [Cond.methodLink RX5 158 yX5_there, Cond.instanceMethod yX5_there, Cond.selects RX5 yX5_there yX5_there, Cond.code yX5_there cX5_there 2 (some .boolean), Cond.methodLink RX5 168 yX5_write, Cond.instanceMethod yX5_write, Cond.selects RX5 yX5_write yX5_write, Cond.code yX5_write cX5_write 8 none, Cond.methodLink RX5 171 yX5_change, Cond.instanceMethod yX5_change, Cond.selects RX5 yX5_change yX5_change, Cond.code yX5_change cX5_change 4 none, Cond.fieldLink RX5 165 "UpdatePacksModel" "last" "I", Cond.methodLink RX5 161 yX5_allIn, Cond.instanceMethod yX5_allIn, Cond.selects RX5 yX5_allIn yX5_allIn, Cond.code yX5_allIn cX5_allIn 5 (some .boolean), Cond.methodLink RL 67 yX4_cut, Cond.instanceMethod yX4_cut, Cond.selects RX4 yX4_cut yX4_cut, Cond.code yX4_cut cX4_cut 4 (some .int), Cond.fieldLink RX4 121 "UpdatePacks$Controller" "off" "Z", Cond.methodLink RX4 124 yX3_loseBlock, Cond.instanceMethod yX3_loseBlock]
def wsL_law0_r17 : List Cond := [Cond.selects RX3 yX3_loseBlock yX3_loseBlock, Cond.code yX3_loseBlock cX3_loseBlock 1 none, Cond.methodLink RL 70 yX5_cut, Cond.instanceMethod yX5_cut, Cond.selects RX5 yX5_cut yX5_cut, Cond.code yX5_cut cX5_cut 3 (some .int), Cond.methodLink RL 71 yX4_boot, Cond.instanceMethod yX4_boot, Cond.selects RX4 yX4_boot yX4_boot, Cond.code yX4_boot cX4_boot 3 (some .int), Cond.fieldLink RX4 135 "UpdatePacks$Bank" "edition" "I", Cond.methodLink RX4 131 yX1_runningBank, Cond.instanceMethod yX1_runningBank, Cond.selects RX1 yX1_runningBank yX1_runningBank, Cond.code yX1_runningBank cX1_runningBank 1 (some (.object "UpdatePacks$Bank")), Cond.methodLink RL 74 yX5_boot, Cond.instanceMethod yX5_boot, Cond.selects RX5 yX5_boot yX5_boot, Cond.code yX5_boot cX5_boot 3 (some .int), Cond.methodLink RL 77 yL_bank, Cond.static yL_bank, Cond.codeWith yL_bank cL_bank 7 (some .int) [(0, 12, 15, 13)], Cond.methodLink RL 15 yX4_bank, Cond.instanceMethod yX4_bank]
def wsL_law0_r18 : List Cond := [Cond.selects RX4 yX4_bank yX4_bank, Cond.code yX4_bank cX4_bank 6 (some .byte), Cond.constantLong RX4 140 (256), Cond.fieldLink RX4 144 "UpdatePacks$Controller" "banks" "[LUpdatePacks$Bank;", Cond.fieldLink RX4 148 "UpdatePacks$Bank" "octets" "[B", Cond.methodLink RL 80 yX5_bank, Cond.instanceMethod yX5_bank, Cond.selects RX5 yX5_bank yX5_bank, Cond.code yX5_bank cX5_bank 5 (some .byte), Cond.constantLong RX5 174 (255), Cond.methodLink RL 81 yX4_joint, Cond.instanceMethod yX4_joint, Cond.selects RX4 yX4_joint yX4_joint, Cond.code yX4_joint cX4_joint 3 (some .int), Cond.fieldLink RX4 155 "UpdatePacks$Bank" "packNumber" "I", Cond.methodLink RX4 149 yX4_hasLastSet, Cond.instanceMethod yX4_hasLastSet, Cond.selects RX4 yX4_hasLastSet yX4_hasLastSet, Cond.code yX4_hasLastSet cX4_hasLastSet 2 (some .boolean), Cond.methodLink RX4 152 yX1_isOfLastSet, Cond.instanceMethod yX1_isOfLastSet, Cond.selects RX1 yX1_isOfLastSet yX1_isOfLastSet, Cond.code yX1_isOfLastSet cX1_isOfLastSet 1 (some .boolean), Cond.fieldLink RX1 36 "UpdatePacks$Controller" "lastPack" "I"]
def wsL_law0_r19 : List Cond := [Cond.methodLink RL 84 yX5_joint, Cond.instanceMethod yX5_joint, Cond.selects RX5 yX5_joint yX5_joint, Cond.code yX5_joint cX5_joint 3 (some .int), Cond.methodLink RL 85 yX4_rollback, Cond.instanceMethod yX4_rollback, Cond.selects RX4 yX4_rollback yX4_rollback, Cond.code yX4_rollback cX4_rollback 3 (some .int), Cond.methodLink RX4 161 yX4_lastSetMayGoBack, Cond.instanceMethod yX4_lastSetMayGoBack, Cond.selects RX4 yX4_lastSetMayGoBack yX4_lastSetMayGoBack, Cond.code yX4_lastSetMayGoBack cX4_lastSetMayGoBack 3 (some .boolean), Cond.methodLink RL 88 yX5_rollback, Cond.instanceMethod yX5_rollback, Cond.selects RX5 yX5_rollback yX5_rollback, Cond.code yX5_rollback cX5_rollback 4 (some .int), Cond.methodLink RL 89 yX4_silent, Cond.instanceMethod yX4_silent, Cond.selects RX4 yX4_silent yX4_silent, Cond.code yX4_silent cX4_silent 5 (some .int), Cond.fieldLink RX4 167 "UpdatePacks$Controller" "silent" "Z", Cond.methodLink RL 92 yX5_silent, Cond.instanceMethod yX5_silent, Cond.selects RX5 yX5_silent yX5_silent]
def wsL_law0_r20 : List Cond := [Cond.code yX5_silent cX5_silent 4 (some .int), Cond.methodLink RL 93 yX4_counter, Cond.instanceMethod yX4_counter, Cond.selects RX4 yX4_counter yX4_counter, Cond.code yX4_counter cX4_counter 3 (some .int), Cond.methodLink RL 96 yX5_counter, Cond.instanceMethod yX5_counter, Cond.selects RX5 yX5_counter yX5_counter, Cond.code yX5_counter cX5_counter 2 (some .int)]
def wsL_law0 : List Cond := (wsL_law0_r1 ++ (wsL_law0_r2 ++ (wsL_law0_r3 ++ (wsL_law0_r4 ++ (wsL_law0_r5 ++ (wsL_law0_r6 ++ (wsL_law0_r7 ++ (wsL_law0_r8 ++ (wsL_law0_r9 ++ (wsL_law0_r10 ++ (wsL_law0_r11 ++ (wsL_law0_r12 ++ (wsL_law0_r13 ++ (wsL_law0_r14 ++ (wsL_law0_r15 ++ (wsL_law0_r16 ++ (wsL_law0_r17 ++ (wsL_law0_r18 ++ (wsL_law0_r19 ++ wsL_law0_r20))))))))))))))))))) ++ wsX40 ++ wsX50 ++ wsX20 ++ wsX10 ++ wsX00 ++ wsX30 ++ wsJx000600 ++ ([] : List Cond)
def wsL_law : List Cond := wsL_law0 ++ (vx_atM "java/lang/ArrayIndexOutOfBoundsException" ["java/lang/IndexOutOfBoundsException", "java/lang/RuntimeException", "java/lang/Exception"]).filter goodWord
end
section
theorem dX0_init_0 : decode cX0_init 0 = .ok (.aload_n 0, 1) := by decide +kernel
theorem dX0_init_1 : decode cX0_init 1 = .ok (.invokespecial 3, 3) := by decide +kernel
theorem dX0_init_4 : decode cX0_init 4 = .ok (.aload_n 0, 1) := by decide +kernel
theorem dX0_init_5 : decode cX0_init 5 = .ok (.sipush 256, 3) := by decide +kernel
theorem dX0_init_8 : decode cX0_init 8 = .ok (.newarray .byte, 2) := by decide +kernel
theorem dX0_init_10 : decode cX0_init 10 = .ok (.putfield 9, 3) := by decide +kernel
theorem dX0_init_13 : decode cX0_init 13 = .ok (.return_, 1) := by decide +kernel
set_option maxRecDepth 20000 in
theorem ggX1_init_X0_init : GoodIn wsX1_init wsX0_init := goodIn_r _ [15, 16, 2, 3, 17, 18, 34, 35, 36] (by decide +kernel) (by decide +kernel)
set_option maxRecDepth 20000 in
theorem gX1_init_X0_init : GoodIn wsX1_init (wsX0_init) := ggX1_init_X0_init
set_option maxRecDepth 20000 in
theorem ggX1_init_X3_init : GoodIn wsX1_init wsX3_init := goodIn_r _ [21, 22, 2, 3, 17, 23, 37, 38, 39, 40, 41, 42, 43, 44] (by decide +kernel) (by decide +kernel)
set_option maxRecDepth 20000 in
theorem gX1_init_X3_init : GoodIn wsX1_init (wsX3_init) := ggX1_init_X3_init
theorem dX1_init_0 : decode cX1_init 0 = .ok (.aload_n 0, 1) := by decide +kernel
theorem dX1_init_1 : decode cX1_init 1 = .ok (.invokespecial 3, 3) := by decide +kernel
theorem dX1_init_4 : decode cX1_init 4 = .ok (.aload_n 0, 1) := by decide +kernel
theorem dX1_init_5 : decode cX1_init 5 = .ok (.iload_n 1, 1) := by decide +kernel
theorem dX1_init_6 : decode cX1_init 6 = .ok (.putfield 9, 3) := by decide +kernel
theorem dX1_init_9 : decode cX1_init 9 = .ok (.aload_n 0, 1) := by decide +kernel
theorem dX1_init_10 : decode cX1_init 10 = .ok (.iconst 2, 1) := by decide +kernel
theorem dX1_init_11 : decode cX1_init 11 = .ok (.anewarray 15, 3) := by decide +kernel
theorem dX1_init_14 : decode cX1_init 14 = .ok (.putfield 17, 3) := by decide +kernel
theorem dX1_init_17 : decode cX1_init 17 = .ok (.aload_n 0, 1) := by decide +kernel
theorem dX1_init_18 : decode cX1_init 18 = .ok (.getfield 17, 3) := by decide +kernel
theorem dX1_init_21 : decode cX1_init 21 = .ok (.iconst 0, 1) := by decide +kernel
theorem dX1_init_22 : decode cX1_init 22 = .ok (.new 15, 3) := by decide +kernel
theorem dX1_init_25 : decode cX1_init 25 = .ok (.dup, 1) := by decide +kernel
theorem dX1_init_26 : decode cX1_init 26 = .ok (.invokespecial 21, 3) := by decide +kernel
theorem dX1_init_29 : decode cX1_init 29 = .ok (.aastore, 1) := by decide +kernel
theorem dX1_init_30 : decode cX1_init 30 = .ok (.aload_n 0, 1) := by decide +kernel
theorem dX1_init_31 : decode cX1_init 31 = .ok (.getfield 17, 3) := by decide +kernel
theorem dX1_init_34 : decode cX1_init 34 = .ok (.iconst 1, 1) := by decide +kernel
theorem dX1_init_35 : decode cX1_init 35 = .ok (.new 15, 3) := by decide +kernel
theorem dX1_init_38 : decode cX1_init 38 = .ok (.dup, 1) := by decide +kernel
theorem dX1_init_39 : decode cX1_init 39 = .ok (.invokespecial 21, 3) := by decide +kernel
theorem dX1_init_42 : decode cX1_init 42 = .ok (.aastore, 1) := by decide +kernel
theorem dX1_init_43 : decode cX1_init 43 = .ok (.aload_n 0, 1) := by decide +kernel
theorem dX1_init_44 : decode cX1_init 44 = .ok (.new 22, 3) := by decide +kernel
theorem dX1_init_47 : decode cX1_init 47 = .ok (.dup, 1) := by decide +kernel
theorem dX1_init_48 : decode cX1_init 48 = .ok (.invokespecial 24, 3) := by decide +kernel
theorem dX1_init_51 : decode cX1_init 51 = .ok (.putfield 25, 3) := by decide +kernel
theorem dX1_init_54 : decode cX1_init 54 = .ok (.return_, 1) := by decide +kernel
theorem dX1_isAway_0 : decode cX1_isAway 0 = .ok (.aload_n 0, 1) := by decide +kernel
theorem dX1_isAway_1 : decode cX1_isAway 1 = .ok (.getfield 29, 3) := by decide +kernel
theorem dX1_isAway_4 : decode cX1_isAway 4 = .ok (.ifCond .ne 10, 3) := by decide +kernel
theorem dX1_isAway_7 : decode cX1_isAway 7 = .ok (.aload_n 0, 1) := by decide +kernel
theorem dX1_isAway_8 : decode cX1_isAway 8 = .ok (.getfield 33, 3) := by decide +kernel
theorem dX1_isAway_11 : decode cX1_isAway 11 = .ok (.ifCond .eq 7, 3) := by decide +kernel
theorem dX1_isAway_14 : decode cX1_isAway 14 = .ok (.iconst 1, 1) := by decide +kernel
theorem dX1_isAway_15 : decode cX1_isAway 15 = .ok (.goto 4, 3) := by decide +kernel
theorem dX1_isAway_18 : decode cX1_isAway 18 = .ok (.iconst 0, 1) := by decide +kernel
theorem dX1_isAway_19 : decode cX1_isAway 19 = .ok (.ireturn, 1) := by decide +kernel
theorem dX1_isOfLastSet_0 : decode cX1_isOfLastSet 0 = .ok (.aload_n 0, 1) := by decide +kernel
theorem dX1_isOfLastSet_1 : decode cX1_isOfLastSet 1 = .ok (.getfield 36, 3) := by decide +kernel
theorem dX1_isOfLastSet_4 : decode cX1_isOfLastSet 4 = .ok (.ifCond .eq 7, 3) := by decide +kernel
theorem dX1_isOfLastSet_7 : decode cX1_isOfLastSet 7 = .ok (.iconst 1, 1) := by decide +kernel
theorem dX1_isOfLastSet_8 : decode cX1_isOfLastSet 8 = .ok (.goto 4, 3) := by decide +kernel
theorem dX1_isOfLastSet_11 : decode cX1_isOfLastSet 11 = .ok (.iconst 0, 1) := by decide +kernel
theorem dX1_isOfLastSet_12 : decode cX1_isOfLastSet 12 = .ok (.ireturn, 1) := by decide +kernel
theorem dX1_runningBank_0 : decode cX1_runningBank 0 = .ok (.aload_n 0, 1) := by decide +kernel
theorem dX1_runningBank_1 : decode cX1_runningBank 1 = .ok (.getfield 17, 3) := by decide +kernel
theorem dX1_runningBank_4 : decode cX1_runningBank 4 = .ok (.aload_n 0, 1) := by decide +kernel
theorem dX1_runningBank_5 : decode cX1_runningBank 5 = .ok (.getfield 39, 3) := by decide +kernel
theorem dX1_runningBank_8 : decode cX1_runningBank 8 = .ok (.aaload, 1) := by decide +kernel
theorem dX1_runningBank_9 : decode cX1_runningBank 9 = .ok (.areturn, 1) := by decide +kernel
theorem dX1_runOtherBank_0 : decode cX1_runOtherBank 0 = .ok (.aload_n 0, 1) := by decide +kernel
theorem dX1_runOtherBank_1 : decode cX1_runOtherBank 1 = .ok (.iconst 1, 1) := by decide +kernel
theorem dX1_runOtherBank_2 : decode cX1_runOtherBank 2 = .ok (.aload_n 0, 1) := by decide +kernel
theorem dX1_runOtherBank_3 : decode cX1_runOtherBank 3 = .ok (.getfield 39, 3) := by decide +kernel
theorem dX1_runOtherBank_6 : decode cX1_runOtherBank 6 = .ok (.isub, 1) := by decide +kernel
theorem dX1_runOtherBank_7 : decode cX1_runOtherBank 7 = .ok (.putfield 39, 3) := by decide +kernel
theorem dX1_runOtherBank_10 : decode cX1_runOtherBank 10 = .ok (.aload_n 0, 1) := by decide +kernel
theorem dX1_runOtherBank_11 : decode cX1_runOtherBank 11 = .ok (.aload_n 0, 1) := by decide +kernel
theorem dX1_runOtherBank_12 : decode cX1_runOtherBank 12 = .ok (.getfield 17, 3) := by decide +kernel
theorem dX1_runOtherBank_15 : decode cX1_runOtherBank 15 = .ok (.aload_n 0, 1) := by decide +kernel
theorem dX1_runOtherBank_16 : decode cX1_runOtherBank 16 = .ok (.getfield 39, 3) := by decide +kernel
theorem dX1_runOtherBank_19 : decode cX1_runOtherBank 19 = .ok (.aaload, 1) := by decide +kernel
theorem dX1_runOtherBank_20 : decode cX1_runOtherBank 20 = .ok (.getfield 42, 3) := by decide +kernel
theorem dX1_runOtherBank_23 : decode cX1_runOtherBank 23 = .ok (.putfield 45, 3) := by decide +kernel
theorem dX1_runOtherBank_26 : decode cX1_runOtherBank 26 = .ok (.return_, 1) := by decide +kernel
set_option maxRecDepth 20000 in
theorem ggX1_writeNextBlock_X1_completeBank : GoodIn wsX1_writeNextBlock wsX1_completeBank := goodIn_ca (goodIn_r _ [18, 3, 5, 12, 19, 20, 21, 22, 23, 24, 25, 26, 27, 28, 29, 30, 31, 32, 33, 34, 35, 36, 37, 38, 39, 40, 41, 42, 43, 44] (by decide +kernel) (by decide +kernel)) (goodIn_sub (fun _ h => List.mem_cons_of_mem _ (List.mem_append_right _ h)) (by decide +kernel))
set_option maxRecDepth 20000 in
theorem gX1_writeNextBlock_X1_completeBank : GoodIn wsX1_writeNextBlock (wsV RX1 72 RX1 yX1_completeBank wsX1_completeBank) := goodIn_app (goodIn_of _ (by decide +kernel)) ggX1_writeNextBlock_X1_completeBank
theorem dX1_writeNextBlock_0 : decode cX1_writeNextBlock 0 = .ok (.aload_n 0, 1) := by decide +kernel
theorem dX1_writeNextBlock_1 : decode cX1_writeNextBlock 1 = .ok (.getfield 17, 3) := by decide +kernel
theorem dX1_writeNextBlock_4 : decode cX1_writeNextBlock 4 = .ok (.iconst 1, 1) := by decide +kernel
theorem dX1_writeNextBlock_5 : decode cX1_writeNextBlock 5 = .ok (.aload_n 0, 1) := by decide +kernel
theorem dX1_writeNextBlock_6 : decode cX1_writeNextBlock 6 = .ok (.getfield 39, 3) := by decide +kernel
theorem dX1_writeNextBlock_9 : decode cX1_writeNextBlock 9 = .ok (.isub, 1) := by decide +kernel
theorem dX1_writeNextBlock_10 : decode cX1_writeNextBlock 10 = .ok (.aaload, 1) := by decide +kernel
theorem dX1_writeNextBlock_11 : decode cX1_writeNextBlock 11 = .ok (.astore_n 1, 1) := by decide +kernel
theorem dX1_writeNextBlock_12 : decode cX1_writeNextBlock 12 = .ok (.aload_n 0, 1) := by decide +kernel
theorem dX1_writeNextBlock_13 : decode cX1_writeNextBlock 13 = .ok (.getfield 25, 3) := by decide +kernel
theorem dX1_writeNextBlock_16 : decode cX1_writeNextBlock 16 = .ok (.getfield 48, 3) := by decide +kernel
theorem dX1_writeNextBlock_19 : decode cX1_writeNextBlock 19 = .ok (.bipush 16, 2) := by decide +kernel
theorem dX1_writeNextBlock_21 : decode cX1_writeNextBlock 21 = .ok (.imul, 1) := by decide +kernel
theorem dX1_writeNextBlock_22 : decode cX1_writeNextBlock 22 = .ok (.istore_n 2, 1) := by decide +kernel
theorem dX1_writeNextBlock_23 : decode cX1_writeNextBlock 23 = .ok (.iload_n 2, 1) := by decide +kernel
theorem dX1_writeNextBlock_24 : decode cX1_writeNextBlock 24 = .ok (.bipush 16, 2) := by decide +kernel
theorem dX1_writeNextBlock_26 : decode cX1_writeNextBlock 26 = .ok (.iadd, 1) := by decide +kernel
theorem dX1_writeNextBlock_27 : decode cX1_writeNextBlock 27 = .ok (.aload_n 0, 1) := by decide +kernel
theorem dX1_writeNextBlock_28 : decode cX1_writeNextBlock 28 = .ok (.getfield 25, 3) := by decide +kernel
theorem dX1_writeNextBlock_31 : decode cX1_writeNextBlock 31 = .ok (.getfield 51, 3) := by decide +kernel
theorem dX1_writeNextBlock_34 : decode cX1_writeNextBlock 34 = .ok (.invokestatic 54, 3) := by decide +kernel
theorem dX1_writeNextBlock_37 : decode cX1_writeNextBlock 37 = .ok (.istore_n 3, 1) := by decide +kernel
theorem dX1_writeNextBlock_38 : decode cX1_writeNextBlock 38 = .ok (.aload_n 0, 1) := by decide +kernel
theorem dX1_writeNextBlock_39 : decode cX1_writeNextBlock 39 = .ok (.getfield 60, 3) := by decide +kernel
theorem dX1_writeNextBlock_42 : decode cX1_writeNextBlock 42 = .ok (.ifCond .eq 21, 3) := by decide +kernel
theorem dX1_writeNextBlock_45 : decode cX1_writeNextBlock 45 = .ok (.aload_n 0, 1) := by decide +kernel
theorem dX1_writeNextBlock_46 : decode cX1_writeNextBlock 46 = .ok (.getfield 64, 3) := by decide +kernel
theorem dX1_writeNextBlock_49 : decode cX1_writeNextBlock 49 = .ok (.aload_n 0, 1) := by decide +kernel
theorem dX1_writeNextBlock_50 : decode cX1_writeNextBlock 50 = .ok (.getfield 25, 3) := by decide +kernel
theorem dX1_writeNextBlock_53 : decode cX1_writeNextBlock 53 = .ok (.getfield 48, 3) := by decide +kernel
theorem dX1_writeNextBlock_56 : decode cX1_writeNextBlock 56 = .ok (.if_icmp .ne 7, 3) := by decide +kernel
theorem dX1_writeNextBlock_59 : decode cX1_writeNextBlock 59 = .ok (.iconst 1, 1) := by decide +kernel
theorem dX1_writeNextBlock_60 : decode cX1_writeNextBlock 60 = .ok (.goto 4, 3) := by decide +kernel
theorem dX1_writeNextBlock_63 : decode cX1_writeNextBlock 63 = .ok (.iconst 0, 1) := by decide +kernel
theorem dX1_writeNextBlock_64 : decode cX1_writeNextBlock 64 = .ok (.istore 4, 2) := by decide +kernel
theorem dX1_writeNextBlock_66 : decode cX1_writeNextBlock 66 = .ok (.iload 4, 2) := by decide +kernel
theorem dX1_writeNextBlock_68 : decode cX1_writeNextBlock 68 = .ok (.ifCond .eq 10, 3) := by decide +kernel
theorem dX1_writeNextBlock_71 : decode cX1_writeNextBlock 71 = .ok (.aload_n 0, 1) := by decide +kernel
theorem dX1_writeNextBlock_72 : decode cX1_writeNextBlock 72 = .ok (.getfield 60, 3) := by decide +kernel
theorem dX1_writeNextBlock_75 : decode cX1_writeNextBlock 75 = .ok (.goto 4, 3) := by decide +kernel
theorem dX1_writeNextBlock_78 : decode cX1_writeNextBlock 78 = .ok (.iconst 0, 1) := by decide +kernel
theorem dX1_writeNextBlock_79 : decode cX1_writeNextBlock 79 = .ok (.istore 5, 2) := by decide +kernel
theorem dX1_writeNextBlock_81 : decode cX1_writeNextBlock 81 = .ok (.iload_n 2, 1) := by decide +kernel
theorem dX1_writeNextBlock_82 : decode cX1_writeNextBlock 82 = .ok (.istore 6, 2) := by decide +kernel
theorem dX1_writeNextBlock_84 : decode cX1_writeNextBlock 84 = .ok (.iload 6, 2) := by decide +kernel
theorem dX1_writeNextBlock_86 : decode cX1_writeNextBlock 86 = .ok (.iload_n 3, 1) := by decide +kernel
theorem dX1_writeNextBlock_87 : decode cX1_writeNextBlock 87 = .ok (.if_icmp .ge 30, 3) := by decide +kernel
theorem dX1_writeNextBlock_90 : decode cX1_writeNextBlock 90 = .ok (.aload_n 1, 1) := by decide +kernel
theorem dX1_writeNextBlock_91 : decode cX1_writeNextBlock 91 = .ok (.getfield 67, 3) := by decide +kernel
theorem dX1_writeNextBlock_94 : decode cX1_writeNextBlock 94 = .ok (.iload 6, 2) := by decide +kernel
theorem dX1_writeNextBlock_96 : decode cX1_writeNextBlock 96 = .ok (.aload_n 0, 1) := by decide +kernel
theorem dX1_writeNextBlock_97 : decode cX1_writeNextBlock 97 = .ok (.getfield 25, 3) := by decide +kernel
theorem dX1_writeNextBlock_100 : decode cX1_writeNextBlock 100 = .ok (.getfield 71, 3) := by decide +kernel
theorem dX1_writeNextBlock_103 : decode cX1_writeNextBlock 103 = .ok (.iload 6, 2) := by decide +kernel
theorem dX1_writeNextBlock_105 : decode cX1_writeNextBlock 105 = .ok (.baload, 1) := by decide +kernel
theorem dX1_writeNextBlock_106 : decode cX1_writeNextBlock 106 = .ok (.iload 5, 2) := by decide +kernel
theorem dX1_writeNextBlock_108 : decode cX1_writeNextBlock 108 = .ok (.ixor, 1) := by decide +kernel
theorem dX1_writeNextBlock_109 : decode cX1_writeNextBlock 109 = .ok (.i2b, 1) := by decide +kernel
theorem dX1_writeNextBlock_110 : decode cX1_writeNextBlock 110 = .ok (.bastore, 1) := by decide +kernel
theorem dX1_writeNextBlock_111 : decode cX1_writeNextBlock 111 = .ok (.iinc 6 1, 3) := by decide +kernel
theorem dX1_writeNextBlock_114 : decode cX1_writeNextBlock 114 = .ok (.goto (-30), 3) := by decide +kernel
theorem dX1_writeNextBlock_117 : decode cX1_writeNextBlock 117 = .ok (.iload 4, 2) := by decide +kernel
theorem dX1_writeNextBlock_119 : decode cX1_writeNextBlock 119 = .ok (.ifCond .eq 9, 3) := by decide +kernel
theorem dX1_writeNextBlock_122 : decode cX1_writeNextBlock 122 = .ok (.aload_n 0, 1) := by decide +kernel
theorem dX1_writeNextBlock_123 : decode cX1_writeNextBlock 123 = .ok (.iconst 0, 1) := by decide +kernel
theorem dX1_writeNextBlock_124 : decode cX1_writeNextBlock 124 = .ok (.putfield 60, 3) := by decide +kernel
theorem dX1_writeNextBlock_127 : decode cX1_writeNextBlock 127 = .ok (.return_, 1) := by decide +kernel
theorem dX1_writeNextBlock_128 : decode cX1_writeNextBlock 128 = .ok (.aload_n 0, 1) := by decide +kernel
theorem dX1_writeNextBlock_129 : decode cX1_writeNextBlock 129 = .ok (.getfield 25, 3) := by decide +kernel
theorem dX1_writeNextBlock_132 : decode cX1_writeNextBlock 132 = .ok (.dup, 1) := by decide +kernel
theorem dX1_writeNextBlock_133 : decode cX1_writeNextBlock 133 = .ok (.getfield 48, 3) := by decide +kernel
theorem dX1_writeNextBlock_136 : decode cX1_writeNextBlock 136 = .ok (.iconst 1, 1) := by decide +kernel
theorem dX1_writeNextBlock_137 : decode cX1_writeNextBlock 137 = .ok (.iadd, 1) := by decide +kernel
theorem dX1_writeNextBlock_138 : decode cX1_writeNextBlock 138 = .ok (.putfield 48, 3) := by decide +kernel
theorem dX1_writeNextBlock_141 : decode cX1_writeNextBlock 141 = .ok (.iload_n 3, 1) := by decide +kernel
theorem dX1_writeNextBlock_142 : decode cX1_writeNextBlock 142 = .ok (.aload_n 0, 1) := by decide +kernel
theorem dX1_writeNextBlock_143 : decode cX1_writeNextBlock 143 = .ok (.getfield 25, 3) := by decide +kernel
theorem dX1_writeNextBlock_146 : decode cX1_writeNextBlock 146 = .ok (.getfield 51, 3) := by decide +kernel
theorem dX1_writeNextBlock_149 : decode cX1_writeNextBlock 149 = .ok (.if_icmp .ne 8, 3) := by decide +kernel
theorem dX1_writeNextBlock_152 : decode cX1_writeNextBlock 152 = .ok (.aload_n 0, 1) := by decide +kernel
theorem dX1_writeNextBlock_153 : decode cX1_writeNextBlock 153 = .ok (.aload_n 1, 1) := by decide +kernel
theorem dX1_writeNextBlock_154 : decode cX1_writeNextBlock 154 = .ok (.invokevirtual 72, 3) := by decide +kernel
theorem dX1_writeNextBlock_157 : decode cX1_writeNextBlock 157 = .ok (.return_, 1) := by decide +kernel
theorem dX1_completeBank_0 : decode cX1_completeBank 0 = .ok (.aload_n 0, 1) := by decide +kernel
theorem dX1_completeBank_1 : decode cX1_completeBank 1 = .ok (.getfield 25, 3) := by decide +kernel
theorem dX1_completeBank_4 : decode cX1_completeBank 4 = .ok (.getfield 51, 3) := by decide +kernel
theorem dX1_completeBank_7 : decode cX1_completeBank 7 = .ok (.istore_n 2, 1) := by decide +kernel
theorem dX1_completeBank_8 : decode cX1_completeBank 8 = .ok (.iload_n 2, 1) := by decide +kernel
theorem dX1_completeBank_9 : decode cX1_completeBank 9 = .ok (.sipush 256, 3) := by decide +kernel
theorem dX1_completeBank_12 : decode cX1_completeBank 12 = .ok (.if_icmp .ge 16, 3) := by decide +kernel
theorem dX1_completeBank_15 : decode cX1_completeBank 15 = .ok (.aload_n 1, 1) := by decide +kernel
theorem dX1_completeBank_16 : decode cX1_completeBank 16 = .ok (.getfield 67, 3) := by decide +kernel
theorem dX1_completeBank_19 : decode cX1_completeBank 19 = .ok (.iload_n 2, 1) := by decide +kernel
theorem dX1_completeBank_20 : decode cX1_completeBank 20 = .ok (.iconst 0, 1) := by decide +kernel
theorem dX1_completeBank_21 : decode cX1_completeBank 21 = .ok (.bastore, 1) := by decide +kernel
theorem dX1_completeBank_22 : decode cX1_completeBank 22 = .ok (.iinc 2 1, 3) := by decide +kernel
theorem dX1_completeBank_25 : decode cX1_completeBank 25 = .ok (.goto (-17), 3) := by decide +kernel
theorem dX1_completeBank_28 : decode cX1_completeBank 28 = .ok (.aload_n 1, 1) := by decide +kernel
theorem dX1_completeBank_29 : decode cX1_completeBank 29 = .ok (.aload_n 0, 1) := by decide +kernel
theorem dX1_completeBank_30 : decode cX1_completeBank 30 = .ok (.getfield 25, 3) := by decide +kernel
theorem dX1_completeBank_33 : decode cX1_completeBank 33 = .ok (.getfield 76, 3) := by decide +kernel
theorem dX1_completeBank_36 : decode cX1_completeBank 36 = .ok (.putfield 42, 3) := by decide +kernel
theorem dX1_completeBank_39 : decode cX1_completeBank 39 = .ok (.aload_n 1, 1) := by decide +kernel
theorem dX1_completeBank_40 : decode cX1_completeBank 40 = .ok (.aload_n 0, 1) := by decide +kernel
theorem dX1_completeBank_41 : decode cX1_completeBank 41 = .ok (.getfield 25, 3) := by decide +kernel
theorem dX1_completeBank_44 : decode cX1_completeBank 44 = .ok (.getfield 77, 3) := by decide +kernel
theorem dX1_completeBank_47 : decode cX1_completeBank 47 = .ok (.putfield 80, 3) := by decide +kernel
theorem dX1_completeBank_50 : decode cX1_completeBank 50 = .ok (.aload_n 0, 1) := by decide +kernel
theorem dX1_completeBank_51 : decode cX1_completeBank 51 = .ok (.getfield 25, 3) := by decide +kernel
theorem dX1_completeBank_54 : decode cX1_completeBank 54 = .ok (.iconst 2, 1) := by decide +kernel
theorem dX1_completeBank_55 : decode cX1_completeBank 55 = .ok (.putfield 83, 3) := by decide +kernel
theorem dX1_completeBank_58 : decode cX1_completeBank 58 = .ok (.return_, 1) := by decide +kernel
theorem dX2_init_0 : decode cX2_init 0 = .ok (.aload_n 0, 1) := by decide +kernel
theorem dX2_init_1 : decode cX2_init 1 = .ok (.invokespecial 1, 3) := by decide +kernel
theorem dX2_init_4 : decode cX2_init 4 = .ok (.aload_n 0, 1) := by decide +kernel
theorem dX2_init_5 : decode cX2_init 5 = .ok (.sipush 320, 3) := by decide +kernel
theorem dX2_init_8 : decode cX2_init 8 = .ok (.newarray .byte, 2) := by decide +kernel
theorem dX2_init_10 : decode cX2_init 10 = .ok (.putfield 9, 3) := by decide +kernel
theorem dX2_init_13 : decode cX2_init 13 = .ok (.aload_n 0, 1) := by decide +kernel
theorem dX2_init_14 : decode cX2_init 14 = .ok (.bipush 64, 2) := by decide +kernel
theorem dX2_init_16 : decode cX2_init 16 = .ok (.newarray .int, 2) := by decide +kernel
theorem dX2_init_18 : decode cX2_init 18 = .ok (.putfield 13, 3) := by decide +kernel
theorem dX2_init_21 : decode cX2_init 21 = .ok (.aload_n 0, 1) := by decide +kernel
theorem dX2_init_22 : decode cX2_init 22 = .ok (.bipush 8, 2) := by decide +kernel
theorem dX2_init_24 : decode cX2_init 24 = .ok (.newarray .int, 2) := by decide +kernel
theorem dX2_init_26 : decode cX2_init 26 = .ok (.putfield 17, 3) := by decide +kernel
theorem dX2_init_29 : decode cX2_init 29 = .ok (.return_, 1) := by decide +kernel
theorem dX2_resultOctet_0 : decode cX2_resultOctet 0 = .ok (.aload_n 0, 1) := by decide +kernel
theorem dX2_resultOctet_1 : decode cX2_resultOctet 1 = .ok (.getfield 17, 3) := by decide +kernel
theorem dX2_resultOctet_4 : decode cX2_resultOctet 4 = .ok (.iload_n 1, 1) := by decide +kernel
theorem dX2_resultOctet_5 : decode cX2_resultOctet 5 = .ok (.iconst 2, 1) := by decide +kernel
theorem dX2_resultOctet_6 : decode cX2_resultOctet 6 = .ok (.ishr, 1) := by decide +kernel
theorem dX2_resultOctet_7 : decode cX2_resultOctet 7 = .ok (.bipush 7, 2) := by decide +kernel
theorem dX2_resultOctet_9 : decode cX2_resultOctet 9 = .ok (.iand, 1) := by decide +kernel
theorem dX2_resultOctet_10 : decode cX2_resultOctet 10 = .ok (.iaload, 1) := by decide +kernel
theorem dX2_resultOctet_11 : decode cX2_resultOctet 11 = .ok (.bipush 24, 2) := by decide +kernel
theorem dX2_resultOctet_13 : decode cX2_resultOctet 13 = .ok (.bipush 8, 2) := by decide +kernel
theorem dX2_resultOctet_15 : decode cX2_resultOctet 15 = .ok (.iload_n 1, 1) := by decide +kernel
theorem dX2_resultOctet_16 : decode cX2_resultOctet 16 = .ok (.iconst 3, 1) := by decide +kernel
theorem dX2_resultOctet_17 : decode cX2_resultOctet 17 = .ok (.iand, 1) := by decide +kernel
theorem dX2_resultOctet_18 : decode cX2_resultOctet 18 = .ok (.imul, 1) := by decide +kernel
theorem dX2_resultOctet_19 : decode cX2_resultOctet 19 = .ok (.isub, 1) := by decide +kernel
theorem dX2_resultOctet_20 : decode cX2_resultOctet 20 = .ok (.iushr, 1) := by decide +kernel
theorem dX2_resultOctet_21 : decode cX2_resultOctet 21 = .ok (.i2b, 1) := by decide +kernel
theorem dX2_resultOctet_22 : decode cX2_resultOctet 22 = .ok (.ireturn, 1) := by decide +kernel
set_option maxRecDepth 20000 in
theorem ggX2_digestOf_X2_layOut : GoodIn wsX2_digestOf wsX2_layOut := goodIn_ca (goodIn_r _ [7, 8, 9, 33, 34, 35] (by decide +kernel) (by decide +kernel)) (goodIn_sub (fun _ h => List.mem_cons_of_mem _ (List.mem_append_right _ h)) (by decide +kernel))
set_option maxRecDepth 20000 in
theorem gX2_digestOf_X2_layOut : GoodIn wsX2_digestOf (wsV RX2 20 RX2 yX2_layOut wsX2_layOut) := goodIn_app (goodIn_of _ (by decide +kernel)) ggX2_digestOf_X2_layOut
set_option maxRecDepth 20000 in
theorem ggX2_digestOf_X2_fillSchedule : GoodIn wsX2_digestOf wsX2_fillSchedule := goodIn_ca (goodIn_r _ [13, 14, 15, 16, 17, 6, 18, 8, 19, 20, 21, 22, 23, 24, 33, 34, 35] (by decide +kernel) (by decide +kernel)) (goodIn_sub (fun _ h => List.mem_cons_of_mem _ (List.mem_append_right _ h)) (by decide +kernel))
set_option maxRecDepth 20000 in
theorem gX2_digestOf_X2_fillSchedule : GoodIn wsX2_digestOf (wsV RX2 27 RX2 yX2_fillSchedule wsX2_fillSchedule) := goodIn_app (goodIn_of _ (by decide +kernel)) ggX2_digestOf_X2_fillSchedule
set_option maxRecDepth 20000 in
theorem ggX2_digestOf_X2_mix : GoodIn wsX2_digestOf wsX2_mix := goodIn_ca (goodIn_r _ [28, 1, 29, 14, 30, 31, 6, 32, 22, 23, 24, 33, 34, 35] (by decide +kernel) (by decide +kernel)) (goodIn_sub (fun _ h => List.mem_cons_of_mem _ (List.mem_append_right _ h)) (by decide +kernel))
set_option maxRecDepth 20000 in
theorem gX2_digestOf_X2_mix : GoodIn wsX2_digestOf (wsV RX2 31 RX2 yX2_mix wsX2_mix) := goodIn_app (goodIn_of _ (by decide +kernel)) ggX2_digestOf_X2_mix
theorem dX2_digestOf_0 : decode cX2_digestOf 0 = .ok (.aload_n 0, 1) := by decide +kernel
theorem dX2_digestOf_1 : decode cX2_digestOf 1 = .ok (.aload_n 1, 1) := by decide +kernel
theorem dX2_digestOf_2 : decode cX2_digestOf 2 = .ok (.iload_n 2, 1) := by decide +kernel
theorem dX2_digestOf_3 : decode cX2_digestOf 3 = .ok (.invokevirtual 20, 3) := by decide +kernel
theorem dX2_digestOf_6 : decode cX2_digestOf 6 = .ok (.istore_n 3, 1) := by decide +kernel
theorem dX2_digestOf_7 : decode cX2_digestOf 7 = .ok (.iconst 0, 1) := by decide +kernel
theorem dX2_digestOf_8 : decode cX2_digestOf 8 = .ok (.istore 4, 2) := by decide +kernel
theorem dX2_digestOf_10 : decode cX2_digestOf 10 = .ok (.iload 4, 2) := by decide +kernel
theorem dX2_digestOf_12 : decode cX2_digestOf 12 = .ok (.bipush 8, 2) := by decide +kernel
theorem dX2_digestOf_14 : decode cX2_digestOf 14 = .ok (.if_icmp .ge 22, 3) := by decide +kernel
theorem dX2_digestOf_17 : decode cX2_digestOf 17 = .ok (.aload_n 0, 1) := by decide +kernel
theorem dX2_digestOf_18 : decode cX2_digestOf 18 = .ok (.getfield 17, 3) := by decide +kernel
theorem dX2_digestOf_21 : decode cX2_digestOf 21 = .ok (.iload 4, 2) := by decide +kernel
theorem dX2_digestOf_23 : decode cX2_digestOf 23 = .ok (.getstatic 24, 3) := by decide +kernel
theorem dX2_digestOf_26 : decode cX2_digestOf 26 = .ok (.iload 4, 2) := by decide +kernel
theorem dX2_digestOf_28 : decode cX2_digestOf 28 = .ok (.iaload, 1) := by decide +kernel
theorem dX2_digestOf_29 : decode cX2_digestOf 29 = .ok (.iastore, 1) := by decide +kernel
theorem dX2_digestOf_30 : decode cX2_digestOf 30 = .ok (.iinc 4 1, 3) := by decide +kernel
theorem dX2_digestOf_33 : decode cX2_digestOf 33 = .ok (.goto (-23), 3) := by decide +kernel
theorem dX2_digestOf_36 : decode cX2_digestOf 36 = .ok (.iconst 0, 1) := by decide +kernel
theorem dX2_digestOf_37 : decode cX2_digestOf 37 = .ok (.istore 4, 2) := by decide +kernel
theorem dX2_digestOf_39 : decode cX2_digestOf 39 = .ok (.iload 4, 2) := by decide +kernel
theorem dX2_digestOf_41 : decode cX2_digestOf 41 = .ok (.iload_n 3, 1) := by decide +kernel
theorem dX2_digestOf_42 : decode cX2_digestOf 42 = .ok (.if_icmp .ge 19, 3) := by decide +kernel
theorem dX2_digestOf_45 : decode cX2_digestOf 45 = .ok (.aload_n 0, 1) := by decide +kernel
theorem dX2_digestOf_46 : decode cX2_digestOf 46 = .ok (.iload 4, 2) := by decide +kernel
theorem dX2_digestOf_48 : decode cX2_digestOf 48 = .ok (.invokevirtual 27, 3) := by decide +kernel
theorem dX2_digestOf_51 : decode cX2_digestOf 51 = .ok (.aload_n 0, 1) := by decide +kernel
theorem dX2_digestOf_52 : decode cX2_digestOf 52 = .ok (.invokevirtual 31, 3) := by decide +kernel
theorem dX2_digestOf_55 : decode cX2_digestOf 55 = .ok (.iinc 4 64, 3) := by decide +kernel
theorem dX2_digestOf_58 : decode cX2_digestOf 58 = .ok (.goto (-19), 3) := by decide +kernel
theorem dX2_digestOf_61 : decode cX2_digestOf 61 = .ok (.return_, 1) := by decide +kernel
theorem dX2_layOut_0 : decode cX2_layOut 0 = .ok (.iload_n 2, 1) := by decide +kernel
theorem dX2_layOut_1 : decode cX2_layOut 1 = .ok (.bipush 8, 2) := by decide +kernel
theorem dX2_layOut_3 : decode cX2_layOut 3 = .ok (.iadd, 1) := by decide +kernel
theorem dX2_layOut_4 : decode cX2_layOut 4 = .ok (.bipush 64, 2) := by decide +kernel
theorem dX2_layOut_6 : decode cX2_layOut 6 = .ok (.iadd, 1) := by decide +kernel
theorem dX2_layOut_7 : decode cX2_layOut 7 = .ok (.bipush 64, 2) := by decide +kernel
theorem dX2_layOut_9 : decode cX2_layOut 9 = .ok (.idiv, 1) := by decide +kernel
theorem dX2_layOut_10 : decode cX2_layOut 10 = .ok (.bipush 64, 2) := by decide +kernel
theorem dX2_layOut_12 : decode cX2_layOut 12 = .ok (.imul, 1) := by decide +kernel
theorem dX2_layOut_13 : decode cX2_layOut 13 = .ok (.istore_n 3, 1) := by decide +kernel
theorem dX2_layOut_14 : decode cX2_layOut 14 = .ok (.iconst 0, 1) := by decide +kernel
theorem dX2_layOut_15 : decode cX2_layOut 15 = .ok (.istore 4, 2) := by decide +kernel
theorem dX2_layOut_17 : decode cX2_layOut 17 = .ok (.iload 4, 2) := by decide +kernel
theorem dX2_layOut_19 : decode cX2_layOut 19 = .ok (.iload_n 3, 1) := by decide +kernel
theorem dX2_layOut_20 : decode cX2_layOut 20 = .ok (.if_icmp .ge 30, 3) := by decide +kernel
theorem dX2_layOut_23 : decode cX2_layOut 23 = .ok (.aload_n 0, 1) := by decide +kernel
theorem dX2_layOut_24 : decode cX2_layOut 24 = .ok (.getfield 9, 3) := by decide +kernel
theorem dX2_layOut_27 : decode cX2_layOut 27 = .ok (.iload 4, 2) := by decide +kernel
theorem dX2_layOut_29 : decode cX2_layOut 29 = .ok (.iload 4, 2) := by decide +kernel
theorem dX2_layOut_31 : decode cX2_layOut 31 = .ok (.iload_n 2, 1) := by decide +kernel
theorem dX2_layOut_32 : decode cX2_layOut 32 = .ok (.if_icmp .ge 10, 3) := by decide +kernel
theorem dX2_layOut_35 : decode cX2_layOut 35 = .ok (.aload_n 1, 1) := by decide +kernel
theorem dX2_layOut_36 : decode cX2_layOut 36 = .ok (.iload 4, 2) := by decide +kernel
theorem dX2_layOut_38 : decode cX2_layOut 38 = .ok (.baload, 1) := by decide +kernel
theorem dX2_layOut_39 : decode cX2_layOut 39 = .ok (.goto 4, 3) := by decide +kernel
theorem dX2_layOut_42 : decode cX2_layOut 42 = .ok (.iconst 0, 1) := by decide +kernel
theorem dX2_layOut_43 : decode cX2_layOut 43 = .ok (.bastore, 1) := by decide +kernel
theorem dX2_layOut_44 : decode cX2_layOut 44 = .ok (.iinc 4 1, 3) := by decide +kernel
theorem dX2_layOut_47 : decode cX2_layOut 47 = .ok (.goto (-30), 3) := by decide +kernel
theorem dX2_layOut_50 : decode cX2_layOut 50 = .ok (.aload_n 0, 1) := by decide +kernel
theorem dX2_layOut_51 : decode cX2_layOut 51 = .ok (.getfield 9, 3) := by decide +kernel
theorem dX2_layOut_54 : decode cX2_layOut 54 = .ok (.iload_n 2, 1) := by decide +kernel
theorem dX2_layOut_55 : decode cX2_layOut 55 = .ok (.bipush (-128), 2) := by decide +kernel
theorem dX2_layOut_57 : decode cX2_layOut 57 = .ok (.bastore, 1) := by decide +kernel
theorem dX2_layOut_58 : decode cX2_layOut 58 = .ok (.ldc2_w 34, 3) := by decide +kernel
theorem dX2_layOut_61 : decode cX2_layOut 61 = .ok (.iload_n 2, 1) := by decide +kernel
theorem dX2_layOut_62 : decode cX2_layOut 62 = .ok (.i2l, 1) := by decide +kernel
theorem dX2_layOut_63 : decode cX2_layOut 63 = .ok (.lmul, 1) := by decide +kernel
theorem dX2_layOut_64 : decode cX2_layOut 64 = .ok (.lstore 4, 2) := by decide +kernel
theorem dX2_layOut_66 : decode cX2_layOut 66 = .ok (.iconst 1, 1) := by decide +kernel
theorem dX2_layOut_67 : decode cX2_layOut 67 = .ok (.istore 6, 2) := by decide +kernel
theorem dX2_layOut_69 : decode cX2_layOut 69 = .ok (.iload 6, 2) := by decide +kernel
theorem dX2_layOut_71 : decode cX2_layOut 71 = .ok (.bipush 8, 2) := by decide +kernel
theorem dX2_layOut_73 : decode cX2_layOut 73 = .ok (.if_icmp .gt 29, 3) := by decide +kernel
theorem dX2_layOut_76 : decode cX2_layOut 76 = .ok (.aload_n 0, 1) := by decide +kernel
theorem dX2_layOut_77 : decode cX2_layOut 77 = .ok (.getfield 9, 3) := by decide +kernel
theorem dX2_layOut_80 : decode cX2_layOut 80 = .ok (.iload_n 3, 1) := by decide +kernel
theorem dX2_layOut_81 : decode cX2_layOut 81 = .ok (.iload 6, 2) := by decide +kernel
theorem dX2_layOut_83 : decode cX2_layOut 83 = .ok (.isub, 1) := by decide +kernel
theorem dX2_layOut_84 : decode cX2_layOut 84 = .ok (.lload 4, 2) := by decide +kernel
theorem dX2_layOut_86 : decode cX2_layOut 86 = .ok (.l2i, 1) := by decide +kernel
theorem dX2_layOut_87 : decode cX2_layOut 87 = .ok (.i2b, 1) := by decide +kernel
theorem dX2_layOut_88 : decode cX2_layOut 88 = .ok (.bastore, 1) := by decide +kernel
theorem dX2_layOut_89 : decode cX2_layOut 89 = .ok (.lload 4, 2) := by decide +kernel
theorem dX2_layOut_91 : decode cX2_layOut 91 = .ok (.bipush 8, 2) := by decide +kernel
theorem dX2_layOut_93 : decode cX2_layOut 93 = .ok (.lushr, 1) := by decide +kernel
theorem dX2_layOut_94 : decode cX2_layOut 94 = .ok (.lstore 4, 2) := by decide +kernel
theorem dX2_layOut_96 : decode cX2_layOut 96 = .ok (.iinc 6 1, 3) := by decide +kernel
theorem dX2_layOut_99 : decode cX2_layOut 99 = .ok (.goto (-30), 3) := by decide +kernel
theorem dX2_layOut_102 : decode cX2_layOut 102 = .ok (.iload_n 3, 1) := by decide +kernel
theorem dX2_layOut_103 : decode cX2_layOut 103 = .ok (.ireturn, 1) := by decide +kernel
set_option maxRecDepth 20000 in
theorem ggX2_fillSchedule_X2_wordAt : GoodIn wsX2_fillSchedule wsX2_wordAt := goodIn_ca (goodIn_r _ [6, 7, 14, 15, 16] (by decide +kernel) (by decide +kernel)) (goodIn_sub (fun _ h => List.mem_cons_of_mem _ (List.mem_append_right _ h)) (by decide +kernel))
set_option maxRecDepth 20000 in
theorem gX2_fillSchedule_X2_wordAt : GoodIn wsX2_fillSchedule (wsV RX2 36 RX2 yX2_wordAt wsX2_wordAt) := goodIn_app (goodIn_of _ (by decide +kernel)) ggX2_fillSchedule_X2_wordAt
set_option maxRecDepth 20000 in
theorem ggX2_fillSchedule_X2_spread : GoodIn wsX2_fillSchedule wsX2_spread := goodIn_r _ [10, 11, 12, 5, 13] (by decide +kernel) (by decide +kernel)
set_option maxRecDepth 20000 in
theorem gX2_fillSchedule_X2_spread : GoodIn wsX2_fillSchedule (va_wsS RX2 40 yX2_spread wsX2_spread) := goodIn_app (goodIn_of _ (by decide +kernel)) ggX2_fillSchedule_X2_spread
theorem dX2_fillSchedule_0 : decode cX2_fillSchedule 0 = .ok (.iconst 0, 1) := by decide +kernel
theorem dX2_fillSchedule_1 : decode cX2_fillSchedule 1 = .ok (.istore_n 2, 1) := by decide +kernel
theorem dX2_fillSchedule_2 : decode cX2_fillSchedule 2 = .ok (.iload_n 2, 1) := by decide +kernel
theorem dX2_fillSchedule_3 : decode cX2_fillSchedule 3 = .ok (.bipush 16, 2) := by decide +kernel
theorem dX2_fillSchedule_5 : decode cX2_fillSchedule 5 = .ok (.if_icmp .ge 24, 3) := by decide +kernel
theorem dX2_fillSchedule_8 : decode cX2_fillSchedule 8 = .ok (.aload_n 0, 1) := by decide +kernel
theorem dX2_fillSchedule_9 : decode cX2_fillSchedule 9 = .ok (.getfield 13, 3) := by decide +kernel
theorem dX2_fillSchedule_12 : decode cX2_fillSchedule 12 = .ok (.iload_n 2, 1) := by decide +kernel
theorem dX2_fillSchedule_13 : decode cX2_fillSchedule 13 = .ok (.aload_n 0, 1) := by decide +kernel
theorem dX2_fillSchedule_14 : decode cX2_fillSchedule 14 = .ok (.iload_n 1, 1) := by decide +kernel
theorem dX2_fillSchedule_15 : decode cX2_fillSchedule 15 = .ok (.iconst 4, 1) := by decide +kernel
theorem dX2_fillSchedule_16 : decode cX2_fillSchedule 16 = .ok (.iload_n 2, 1) := by decide +kernel
theorem dX2_fillSchedule_17 : decode cX2_fillSchedule 17 = .ok (.imul, 1) := by decide +kernel
theorem dX2_fillSchedule_18 : decode cX2_fillSchedule 18 = .ok (.iadd, 1) := by decide +kernel
theorem dX2_fillSchedule_19 : decode cX2_fillSchedule 19 = .ok (.invokevirtual 36, 3) := by decide +kernel
theorem dX2_fillSchedule_22 : decode cX2_fillSchedule 22 = .ok (.iastore, 1) := by decide +kernel
theorem dX2_fillSchedule_23 : decode cX2_fillSchedule 23 = .ok (.iinc 2 1, 3) := by decide +kernel
theorem dX2_fillSchedule_26 : decode cX2_fillSchedule 26 = .ok (.goto (-24), 3) := by decide +kernel
theorem dX2_fillSchedule_29 : decode cX2_fillSchedule 29 = .ok (.bipush 16, 2) := by decide +kernel
theorem dX2_fillSchedule_31 : decode cX2_fillSchedule 31 = .ok (.istore_n 2, 1) := by decide +kernel
theorem dX2_fillSchedule_32 : decode cX2_fillSchedule 32 = .ok (.iload_n 2, 1) := by decide +kernel
theorem dX2_fillSchedule_33 : decode cX2_fillSchedule 33 = .ok (.bipush 64, 2) := by decide +kernel
theorem dX2_fillSchedule_35 : decode cX2_fillSchedule 35 = .ok (.if_icmp .ge 70, 3) := by decide +kernel
theorem dX2_fillSchedule_38 : decode cX2_fillSchedule 38 = .ok (.aload_n 0, 1) := by decide +kernel
theorem dX2_fillSchedule_39 : decode cX2_fillSchedule 39 = .ok (.getfield 13, 3) := by decide +kernel
theorem dX2_fillSchedule_42 : decode cX2_fillSchedule 42 = .ok (.iload_n 2, 1) := by decide +kernel
theorem dX2_fillSchedule_43 : decode cX2_fillSchedule 43 = .ok (.aload_n 0, 1) := by decide +kernel
theorem dX2_fillSchedule_44 : decode cX2_fillSchedule 44 = .ok (.getfield 13, 3) := by decide +kernel
theorem dX2_fillSchedule_47 : decode cX2_fillSchedule 47 = .ok (.iload_n 2, 1) := by decide +kernel
theorem dX2_fillSchedule_48 : decode cX2_fillSchedule 48 = .ok (.bipush 16, 2) := by decide +kernel
theorem dX2_fillSchedule_50 : decode cX2_fillSchedule 50 = .ok (.isub, 1) := by decide +kernel
theorem dX2_fillSchedule_51 : decode cX2_fillSchedule 51 = .ok (.iaload, 1) := by decide +kernel
theorem dX2_fillSchedule_52 : decode cX2_fillSchedule 52 = .ok (.aload_n 0, 1) := by decide +kernel
theorem dX2_fillSchedule_53 : decode cX2_fillSchedule 53 = .ok (.getfield 13, 3) := by decide +kernel
theorem dX2_fillSchedule_56 : decode cX2_fillSchedule 56 = .ok (.iload_n 2, 1) := by decide +kernel
theorem dX2_fillSchedule_57 : decode cX2_fillSchedule 57 = .ok (.bipush 15, 2) := by decide +kernel
theorem dX2_fillSchedule_59 : decode cX2_fillSchedule 59 = .ok (.isub, 1) := by decide +kernel
theorem dX2_fillSchedule_60 : decode cX2_fillSchedule 60 = .ok (.iaload, 1) := by decide +kernel
theorem dX2_fillSchedule_61 : decode cX2_fillSchedule 61 = .ok (.bipush 7, 2) := by decide +kernel
theorem dX2_fillSchedule_63 : decode cX2_fillSchedule 63 = .ok (.bipush 18, 2) := by decide +kernel
theorem dX2_fillSchedule_65 : decode cX2_fillSchedule 65 = .ok (.iconst 3, 1) := by decide +kernel
theorem dX2_fillSchedule_66 : decode cX2_fillSchedule 66 = .ok (.invokestatic 40, 3) := by decide +kernel
theorem dX2_fillSchedule_69 : decode cX2_fillSchedule 69 = .ok (.iadd, 1) := by decide +kernel
theorem dX2_fillSchedule_70 : decode cX2_fillSchedule 70 = .ok (.aload_n 0, 1) := by decide +kernel
theorem dX2_fillSchedule_71 : decode cX2_fillSchedule 71 = .ok (.getfield 13, 3) := by decide +kernel
theorem dX2_fillSchedule_74 : decode cX2_fillSchedule 74 = .ok (.iload_n 2, 1) := by decide +kernel
theorem dX2_fillSchedule_75 : decode cX2_fillSchedule 75 = .ok (.bipush 7, 2) := by decide +kernel
theorem dX2_fillSchedule_77 : decode cX2_fillSchedule 77 = .ok (.isub, 1) := by decide +kernel
theorem dX2_fillSchedule_78 : decode cX2_fillSchedule 78 = .ok (.iaload, 1) := by decide +kernel
theorem dX2_fillSchedule_79 : decode cX2_fillSchedule 79 = .ok (.iadd, 1) := by decide +kernel
theorem dX2_fillSchedule_80 : decode cX2_fillSchedule 80 = .ok (.aload_n 0, 1) := by decide +kernel
theorem dX2_fillSchedule_81 : decode cX2_fillSchedule 81 = .ok (.getfield 13, 3) := by decide +kernel
theorem dX2_fillSchedule_84 : decode cX2_fillSchedule 84 = .ok (.iload_n 2, 1) := by decide +kernel
theorem dX2_fillSchedule_85 : decode cX2_fillSchedule 85 = .ok (.iconst 2, 1) := by decide +kernel
theorem dX2_fillSchedule_86 : decode cX2_fillSchedule 86 = .ok (.isub, 1) := by decide +kernel
theorem dX2_fillSchedule_87 : decode cX2_fillSchedule 87 = .ok (.iaload, 1) := by decide +kernel
theorem dX2_fillSchedule_88 : decode cX2_fillSchedule 88 = .ok (.bipush 17, 2) := by decide +kernel
theorem dX2_fillSchedule_90 : decode cX2_fillSchedule 90 = .ok (.bipush 19, 2) := by decide +kernel
theorem dX2_fillSchedule_92 : decode cX2_fillSchedule 92 = .ok (.bipush 10, 2) := by decide +kernel
theorem dX2_fillSchedule_94 : decode cX2_fillSchedule 94 = .ok (.invokestatic 40, 3) := by decide +kernel
theorem dX2_fillSchedule_97 : decode cX2_fillSchedule 97 = .ok (.iadd, 1) := by decide +kernel
theorem dX2_fillSchedule_98 : decode cX2_fillSchedule 98 = .ok (.iastore, 1) := by decide +kernel
theorem dX2_fillSchedule_99 : decode cX2_fillSchedule 99 = .ok (.iinc 2 1, 3) := by decide +kernel
theorem dX2_fillSchedule_102 : decode cX2_fillSchedule 102 = .ok (.goto (-70), 3) := by decide +kernel
theorem dX2_fillSchedule_105 : decode cX2_fillSchedule 105 = .ok (.return_, 1) := by decide +kernel
theorem dX2_wordAt_0 : decode cX2_wordAt 0 = .ok (.aload_n 0, 1) := by decide +kernel
theorem dX2_wordAt_1 : decode cX2_wordAt 1 = .ok (.getfield 9, 3) := by decide +kernel
theorem dX2_wordAt_4 : decode cX2_wordAt 4 = .ok (.iload_n 1, 1) := by decide +kernel
theorem dX2_wordAt_5 : decode cX2_wordAt 5 = .ok (.baload, 1) := by decide +kernel
theorem dX2_wordAt_6 : decode cX2_wordAt 6 = .ok (.sipush 255, 3) := by decide +kernel
theorem dX2_wordAt_9 : decode cX2_wordAt 9 = .ok (.iand, 1) := by decide +kernel
theorem dX2_wordAt_10 : decode cX2_wordAt 10 = .ok (.bipush 24, 2) := by decide +kernel
theorem dX2_wordAt_12 : decode cX2_wordAt 12 = .ok (.ishl, 1) := by decide +kernel
theorem dX2_wordAt_13 : decode cX2_wordAt 13 = .ok (.aload_n 0, 1) := by decide +kernel
theorem dX2_wordAt_14 : decode cX2_wordAt 14 = .ok (.getfield 9, 3) := by decide +kernel
theorem dX2_wordAt_17 : decode cX2_wordAt 17 = .ok (.iload_n 1, 1) := by decide +kernel
theorem dX2_wordAt_18 : decode cX2_wordAt 18 = .ok (.iconst 1, 1) := by decide +kernel
theorem dX2_wordAt_19 : decode cX2_wordAt 19 = .ok (.iadd, 1) := by decide +kernel
theorem dX2_wordAt_20 : decode cX2_wordAt 20 = .ok (.baload, 1) := by decide +kernel
theorem dX2_wordAt_21 : decode cX2_wordAt 21 = .ok (.sipush 255, 3) := by decide +kernel
theorem dX2_wordAt_24 : decode cX2_wordAt 24 = .ok (.iand, 1) := by decide +kernel
theorem dX2_wordAt_25 : decode cX2_wordAt 25 = .ok (.bipush 16, 2) := by decide +kernel
theorem dX2_wordAt_27 : decode cX2_wordAt 27 = .ok (.ishl, 1) := by decide +kernel
theorem dX2_wordAt_28 : decode cX2_wordAt 28 = .ok (.ior, 1) := by decide +kernel
theorem dX2_wordAt_29 : decode cX2_wordAt 29 = .ok (.aload_n 0, 1) := by decide +kernel
theorem dX2_wordAt_30 : decode cX2_wordAt 30 = .ok (.getfield 9, 3) := by decide +kernel
theorem dX2_wordAt_33 : decode cX2_wordAt 33 = .ok (.iload_n 1, 1) := by decide +kernel
theorem dX2_wordAt_34 : decode cX2_wordAt 34 = .ok (.iconst 2, 1) := by decide +kernel
theorem dX2_wordAt_35 : decode cX2_wordAt 35 = .ok (.iadd, 1) := by decide +kernel
theorem dX2_wordAt_36 : decode cX2_wordAt 36 = .ok (.baload, 1) := by decide +kernel
theorem dX2_wordAt_37 : decode cX2_wordAt 37 = .ok (.sipush 255, 3) := by decide +kernel
theorem dX2_wordAt_40 : decode cX2_wordAt 40 = .ok (.iand, 1) := by decide +kernel
theorem dX2_wordAt_41 : decode cX2_wordAt 41 = .ok (.bipush 8, 2) := by decide +kernel
theorem dX2_wordAt_43 : decode cX2_wordAt 43 = .ok (.ishl, 1) := by decide +kernel
theorem dX2_wordAt_44 : decode cX2_wordAt 44 = .ok (.ior, 1) := by decide +kernel
theorem dX2_wordAt_45 : decode cX2_wordAt 45 = .ok (.aload_n 0, 1) := by decide +kernel
theorem dX2_wordAt_46 : decode cX2_wordAt 46 = .ok (.getfield 9, 3) := by decide +kernel
theorem dX2_wordAt_49 : decode cX2_wordAt 49 = .ok (.iload_n 1, 1) := by decide +kernel
theorem dX2_wordAt_50 : decode cX2_wordAt 50 = .ok (.iconst 3, 1) := by decide +kernel
theorem dX2_wordAt_51 : decode cX2_wordAt 51 = .ok (.iadd, 1) := by decide +kernel
theorem dX2_wordAt_52 : decode cX2_wordAt 52 = .ok (.baload, 1) := by decide +kernel
theorem dX2_wordAt_53 : decode cX2_wordAt 53 = .ok (.sipush 255, 3) := by decide +kernel
theorem dX2_wordAt_56 : decode cX2_wordAt 56 = .ok (.iand, 1) := by decide +kernel
theorem dX2_wordAt_57 : decode cX2_wordAt 57 = .ok (.ior, 1) := by decide +kernel
theorem dX2_wordAt_58 : decode cX2_wordAt 58 = .ok (.ireturn, 1) := by decide +kernel
set_option maxRecDepth 20000 in
theorem ggX2_mix_X2_turns : GoodIn wsX2_mix wsX2_turns := goodIn_r _ [7, 8, 9, 6, 10] (by decide +kernel) (by decide +kernel)
set_option maxRecDepth 20000 in
theorem gX2_mix_X2_turns : GoodIn wsX2_mix (va_wsS RX2 44 yX2_turns wsX2_turns) := goodIn_app (goodIn_of _ (by decide +kernel)) ggX2_mix_X2_turns
theorem dX2_mix_0 : decode cX2_mix 0 = .ok (.aload_n 0, 1) := by decide +kernel
theorem dX2_mix_1 : decode cX2_mix 1 = .ok (.getfield 17, 3) := by decide +kernel
theorem dX2_mix_4 : decode cX2_mix 4 = .ok (.iconst 0, 1) := by decide +kernel
theorem dX2_mix_5 : decode cX2_mix 5 = .ok (.iaload, 1) := by decide +kernel
theorem dX2_mix_6 : decode cX2_mix 6 = .ok (.istore_n 1, 1) := by decide +kernel
theorem dX2_mix_7 : decode cX2_mix 7 = .ok (.aload_n 0, 1) := by decide +kernel
theorem dX2_mix_8 : decode cX2_mix 8 = .ok (.getfield 17, 3) := by decide +kernel
theorem dX2_mix_11 : decode cX2_mix 11 = .ok (.iconst 1, 1) := by decide +kernel
theorem dX2_mix_12 : decode cX2_mix 12 = .ok (.iaload, 1) := by decide +kernel
theorem dX2_mix_13 : decode cX2_mix 13 = .ok (.istore_n 2, 1) := by decide +kernel
theorem dX2_mix_14 : decode cX2_mix 14 = .ok (.aload_n 0, 1) := by decide +kernel
theorem dX2_mix_15 : decode cX2_mix 15 = .ok (.getfield 17, 3) := by decide +kernel
theorem dX2_mix_18 : decode cX2_mix 18 = .ok (.iconst 2, 1) := by decide +kernel
theorem dX2_mix_19 : decode cX2_mix 19 = .ok (.iaload, 1) := by decide +kernel
theorem dX2_mix_20 : decode cX2_mix 20 = .ok (.istore_n 3, 1) := by decide +kernel
theorem dX2_mix_21 : decode cX2_mix 21 = .ok (.aload_n 0, 1) := by decide +kernel
theorem dX2_mix_22 : decode cX2_mix 22 = .ok (.getfield 17, 3) := by decide +kernel
theorem dX2_mix_25 : decode cX2_mix 25 = .ok (.iconst 3, 1) := by decide +kernel
theorem dX2_mix_26 : decode cX2_mix 26 = .ok (.iaload, 1) := by decide +kernel
theorem dX2_mix_27 : decode cX2_mix 27 = .ok (.istore 4, 2) := by decide +kernel
theorem dX2_mix_29 : decode cX2_mix 29 = .ok (.aload_n 0, 1) := by decide +kernel
theorem dX2_mix_30 : decode cX2_mix 30 = .ok (.getfield 17, 3) := by decide +kernel
theorem dX2_mix_33 : decode cX2_mix 33 = .ok (.iconst 4, 1) := by decide +kernel
theorem dX2_mix_34 : decode cX2_mix 34 = .ok (.iaload, 1) := by decide +kernel
theorem dX2_mix_35 : decode cX2_mix 35 = .ok (.istore 5, 2) := by decide +kernel
theorem dX2_mix_37 : decode cX2_mix 37 = .ok (.aload_n 0, 1) := by decide +kernel
theorem dX2_mix_38 : decode cX2_mix 38 = .ok (.getfield 17, 3) := by decide +kernel
theorem dX2_mix_41 : decode cX2_mix 41 = .ok (.iconst 5, 1) := by decide +kernel
theorem dX2_mix_42 : decode cX2_mix 42 = .ok (.iaload, 1) := by decide +kernel
theorem dX2_mix_43 : decode cX2_mix 43 = .ok (.istore 6, 2) := by decide +kernel
theorem dX2_mix_45 : decode cX2_mix 45 = .ok (.aload_n 0, 1) := by decide +kernel
theorem dX2_mix_46 : decode cX2_mix 46 = .ok (.getfield 17, 3) := by decide +kernel
theorem dX2_mix_49 : decode cX2_mix 49 = .ok (.bipush 6, 2) := by decide +kernel
theorem dX2_mix_51 : decode cX2_mix 51 = .ok (.iaload, 1) := by decide +kernel
theorem dX2_mix_52 : decode cX2_mix 52 = .ok (.istore 7, 2) := by decide +kernel
theorem dX2_mix_54 : decode cX2_mix 54 = .ok (.aload_n 0, 1) := by decide +kernel
theorem dX2_mix_55 : decode cX2_mix 55 = .ok (.getfield 17, 3) := by decide +kernel
theorem dX2_mix_58 : decode cX2_mix 58 = .ok (.bipush 7, 2) := by decide +kernel
theorem dX2_mix_60 : decode cX2_mix 60 = .ok (.iaload, 1) := by decide +kernel
theorem dX2_mix_61 : decode cX2_mix 61 = .ok (.istore 8, 2) := by decide +kernel
theorem dX2_mix_63 : decode cX2_mix 63 = .ok (.iconst 0, 1) := by decide +kernel
theorem dX2_mix_64 : decode cX2_mix 64 = .ok (.istore 9, 2) := by decide +kernel
theorem dX2_mix_66 : decode cX2_mix 66 = .ok (.iload 9, 2) := by decide +kernel
theorem dX2_mix_68 : decode cX2_mix 68 = .ok (.bipush 64, 2) := by decide +kernel
theorem dX2_mix_70 : decode cX2_mix 70 = .ok (.if_icmp .ge 109, 3) := by decide +kernel
theorem dX2_mix_73 : decode cX2_mix 73 = .ok (.iload 8, 2) := by decide +kernel
theorem dX2_mix_75 : decode cX2_mix 75 = .ok (.iload 5, 2) := by decide +kernel
theorem dX2_mix_77 : decode cX2_mix 77 = .ok (.bipush 6, 2) := by decide +kernel
theorem dX2_mix_79 : decode cX2_mix 79 = .ok (.bipush 11, 2) := by decide +kernel
theorem dX2_mix_81 : decode cX2_mix 81 = .ok (.bipush 25, 2) := by decide +kernel
theorem dX2_mix_83 : decode cX2_mix 83 = .ok (.invokestatic 44, 3) := by decide +kernel
theorem dX2_mix_86 : decode cX2_mix 86 = .ok (.iadd, 1) := by decide +kernel
theorem dX2_mix_87 : decode cX2_mix 87 = .ok (.iload 5, 2) := by decide +kernel
theorem dX2_mix_89 : decode cX2_mix 89 = .ok (.iload 6, 2) := by decide +kernel
theorem dX2_mix_91 : decode cX2_mix 91 = .ok (.iand, 1) := by decide +kernel
theorem dX2_mix_92 : decode cX2_mix 92 = .ok (.iload 5, 2) := by decide +kernel
theorem dX2_mix_94 : decode cX2_mix 94 = .ok (.iconst (-1), 1) := by decide +kernel
theorem dX2_mix_95 : decode cX2_mix 95 = .ok (.ixor, 1) := by decide +kernel
theorem dX2_mix_96 : decode cX2_mix 96 = .ok (.iload 7, 2) := by decide +kernel
theorem dX2_mix_98 : decode cX2_mix 98 = .ok (.iand, 1) := by decide +kernel
theorem dX2_mix_99 : decode cX2_mix 99 = .ok (.ixor, 1) := by decide +kernel
theorem dX2_mix_100 : decode cX2_mix 100 = .ok (.iadd, 1) := by decide +kernel
theorem dX2_mix_101 : decode cX2_mix 101 = .ok (.getstatic 47, 3) := by decide +kernel
theorem dX2_mix_104 : decode cX2_mix 104 = .ok (.iload 9, 2) := by decide +kernel
theorem dX2_mix_106 : decode cX2_mix 106 = .ok (.iaload, 1) := by decide +kernel
theorem dX2_mix_107 : decode cX2_mix 107 = .ok (.iadd, 1) := by decide +kernel
theorem dX2_mix_108 : decode cX2_mix 108 = .ok (.aload_n 0, 1) := by decide +kernel
theorem dX2_mix_109 : decode cX2_mix 109 = .ok (.getfield 13, 3) := by decide +kernel
theorem dX2_mix_112 : decode cX2_mix 112 = .ok (.iload 9, 2) := by decide +kernel
theorem dX2_mix_114 : decode cX2_mix 114 = .ok (.iaload, 1) := by decide +kernel
theorem dX2_mix_115 : decode cX2_mix 115 = .ok (.iadd, 1) := by decide +kernel
theorem dX2_mix_116 : decode cX2_mix 116 = .ok (.istore 10, 2) := by decide +kernel
theorem dX2_mix_118 : decode cX2_mix 118 = .ok (.iload_n 1, 1) := by decide +kernel
theorem dX2_mix_119 : decode cX2_mix 119 = .ok (.iconst 2, 1) := by decide +kernel
theorem dX2_mix_120 : decode cX2_mix 120 = .ok (.bipush 13, 2) := by decide +kernel
theorem dX2_mix_122 : decode cX2_mix 122 = .ok (.bipush 22, 2) := by decide +kernel
theorem dX2_mix_124 : decode cX2_mix 124 = .ok (.invokestatic 44, 3) := by decide +kernel
theorem dX2_mix_127 : decode cX2_mix 127 = .ok (.iload_n 1, 1) := by decide +kernel
theorem dX2_mix_128 : decode cX2_mix 128 = .ok (.iload_n 2, 1) := by decide +kernel
theorem dX2_mix_129 : decode cX2_mix 129 = .ok (.iand, 1) := by decide +kernel
theorem dX2_mix_130 : decode cX2_mix 130 = .ok (.iload_n 1, 1) := by decide +kernel
theorem dX2_mix_131 : decode cX2_mix 131 = .ok (.iload_n 3, 1) := by decide +kernel
theorem dX2_mix_132 : decode cX2_mix 132 = .ok (.iand, 1) := by decide +kernel
theorem dX2_mix_133 : decode cX2_mix 133 = .ok (.ixor, 1) := by decide +kernel
theorem dX2_mix_134 : decode cX2_mix 134 = .ok (.iload_n 2, 1) := by decide +kernel
theorem dX2_mix_135 : decode cX2_mix 135 = .ok (.iload_n 3, 1) := by decide +kernel
theorem dX2_mix_136 : decode cX2_mix 136 = .ok (.iand, 1) := by decide +kernel
theorem dX2_mix_137 : decode cX2_mix 137 = .ok (.ixor, 1) := by decide +kernel
theorem dX2_mix_138 : decode cX2_mix 138 = .ok (.iadd, 1) := by decide +kernel
theorem dX2_mix_139 : decode cX2_mix 139 = .ok (.istore 11, 2) := by decide +kernel
theorem dX2_mix_141 : decode cX2_mix 141 = .ok (.iload 7, 2) := by decide +kernel
theorem dX2_mix_143 : decode cX2_mix 143 = .ok (.istore 8, 2) := by decide +kernel
theorem dX2_mix_145 : decode cX2_mix 145 = .ok (.iload 6, 2) := by decide +kernel
theorem dX2_mix_147 : decode cX2_mix 147 = .ok (.istore 7, 2) := by decide +kernel
theorem dX2_mix_149 : decode cX2_mix 149 = .ok (.iload 5, 2) := by decide +kernel
theorem dX2_mix_151 : decode cX2_mix 151 = .ok (.istore 6, 2) := by decide +kernel
theorem dX2_mix_153 : decode cX2_mix 153 = .ok (.iload 4, 2) := by decide +kernel
theorem dX2_mix_155 : decode cX2_mix 155 = .ok (.iload 10, 2) := by decide +kernel
theorem dX2_mix_157 : decode cX2_mix 157 = .ok (.iadd, 1) := by decide +kernel
theorem dX2_mix_158 : decode cX2_mix 158 = .ok (.istore 5, 2) := by decide +kernel
theorem dX2_mix_160 : decode cX2_mix 160 = .ok (.iload_n 3, 1) := by decide +kernel
theorem dX2_mix_161 : decode cX2_mix 161 = .ok (.istore 4, 2) := by decide +kernel
theorem dX2_mix_163 : decode cX2_mix 163 = .ok (.iload_n 2, 1) := by decide +kernel
theorem dX2_mix_164 : decode cX2_mix 164 = .ok (.istore_n 3, 1) := by decide +kernel
theorem dX2_mix_165 : decode cX2_mix 165 = .ok (.iload_n 1, 1) := by decide +kernel
theorem dX2_mix_166 : decode cX2_mix 166 = .ok (.istore_n 2, 1) := by decide +kernel
theorem dX2_mix_167 : decode cX2_mix 167 = .ok (.iload 10, 2) := by decide +kernel
theorem dX2_mix_169 : decode cX2_mix 169 = .ok (.iload 11, 2) := by decide +kernel
theorem dX2_mix_171 : decode cX2_mix 171 = .ok (.iadd, 1) := by decide +kernel
theorem dX2_mix_172 : decode cX2_mix 172 = .ok (.istore_n 1, 1) := by decide +kernel
theorem dX2_mix_173 : decode cX2_mix 173 = .ok (.iinc 9 1, 3) := by decide +kernel
theorem dX2_mix_176 : decode cX2_mix 176 = .ok (.goto (-110), 3) := by decide +kernel
theorem dX2_mix_179 : decode cX2_mix 179 = .ok (.aload_n 0, 1) := by decide +kernel
theorem dX2_mix_180 : decode cX2_mix 180 = .ok (.getfield 17, 3) := by decide +kernel
theorem dX2_mix_183 : decode cX2_mix 183 = .ok (.iconst 0, 1) := by decide +kernel
theorem dX2_mix_184 : decode cX2_mix 184 = .ok (.dup2, 1) := by decide +kernel
theorem dX2_mix_185 : decode cX2_mix 185 = .ok (.iaload, 1) := by decide +kernel
theorem dX2_mix_186 : decode cX2_mix 186 = .ok (.iload_n 1, 1) := by decide +kernel
theorem dX2_mix_187 : decode cX2_mix 187 = .ok (.iadd, 1) := by decide +kernel
theorem dX2_mix_188 : decode cX2_mix 188 = .ok (.iastore, 1) := by decide +kernel
theorem dX2_mix_189 : decode cX2_mix 189 = .ok (.aload_n 0, 1) := by decide +kernel
theorem dX2_mix_190 : decode cX2_mix 190 = .ok (.getfield 17, 3) := by decide +kernel
theorem dX2_mix_193 : decode cX2_mix 193 = .ok (.iconst 1, 1) := by decide +kernel
theorem dX2_mix_194 : decode cX2_mix 194 = .ok (.dup2, 1) := by decide +kernel
theorem dX2_mix_195 : decode cX2_mix 195 = .ok (.iaload, 1) := by decide +kernel
theorem dX2_mix_196 : decode cX2_mix 196 = .ok (.iload_n 2, 1) := by decide +kernel
theorem dX2_mix_197 : decode cX2_mix 197 = .ok (.iadd, 1) := by decide +kernel
theorem dX2_mix_198 : decode cX2_mix 198 = .ok (.iastore, 1) := by decide +kernel
theorem dX2_mix_199 : decode cX2_mix 199 = .ok (.aload_n 0, 1) := by decide +kernel
theorem dX2_mix_200 : decode cX2_mix 200 = .ok (.getfield 17, 3) := by decide +kernel
theorem dX2_mix_203 : decode cX2_mix 203 = .ok (.iconst 2, 1) := by decide +kernel
theorem dX2_mix_204 : decode cX2_mix 204 = .ok (.dup2, 1) := by decide +kernel
theorem dX2_mix_205 : decode cX2_mix 205 = .ok (.iaload, 1) := by decide +kernel
theorem dX2_mix_206 : decode cX2_mix 206 = .ok (.iload_n 3, 1) := by decide +kernel
theorem dX2_mix_207 : decode cX2_mix 207 = .ok (.iadd, 1) := by decide +kernel
theorem dX2_mix_208 : decode cX2_mix 208 = .ok (.iastore, 1) := by decide +kernel
theorem dX2_mix_209 : decode cX2_mix 209 = .ok (.aload_n 0, 1) := by decide +kernel
theorem dX2_mix_210 : decode cX2_mix 210 = .ok (.getfield 17, 3) := by decide +kernel
theorem dX2_mix_213 : decode cX2_mix 213 = .ok (.iconst 3, 1) := by decide +kernel
theorem dX2_mix_214 : decode cX2_mix 214 = .ok (.dup2, 1) := by decide +kernel
theorem dX2_mix_215 : decode cX2_mix 215 = .ok (.iaload, 1) := by decide +kernel
theorem dX2_mix_216 : decode cX2_mix 216 = .ok (.iload 4, 2) := by decide +kernel
theorem dX2_mix_218 : decode cX2_mix 218 = .ok (.iadd, 1) := by decide +kernel
theorem dX2_mix_219 : decode cX2_mix 219 = .ok (.iastore, 1) := by decide +kernel
theorem dX2_mix_220 : decode cX2_mix 220 = .ok (.aload_n 0, 1) := by decide +kernel
theorem dX2_mix_221 : decode cX2_mix 221 = .ok (.getfield 17, 3) := by decide +kernel
theorem dX2_mix_224 : decode cX2_mix 224 = .ok (.iconst 4, 1) := by decide +kernel
theorem dX2_mix_225 : decode cX2_mix 225 = .ok (.dup2, 1) := by decide +kernel
theorem dX2_mix_226 : decode cX2_mix 226 = .ok (.iaload, 1) := by decide +kernel
theorem dX2_mix_227 : decode cX2_mix 227 = .ok (.iload 5, 2) := by decide +kernel
theorem dX2_mix_229 : decode cX2_mix 229 = .ok (.iadd, 1) := by decide +kernel
theorem dX2_mix_230 : decode cX2_mix 230 = .ok (.iastore, 1) := by decide +kernel
theorem dX2_mix_231 : decode cX2_mix 231 = .ok (.aload_n 0, 1) := by decide +kernel
theorem dX2_mix_232 : decode cX2_mix 232 = .ok (.getfield 17, 3) := by decide +kernel
theorem dX2_mix_235 : decode cX2_mix 235 = .ok (.iconst 5, 1) := by decide +kernel
theorem dX2_mix_236 : decode cX2_mix 236 = .ok (.dup2, 1) := by decide +kernel
theorem dX2_mix_237 : decode cX2_mix 237 = .ok (.iaload, 1) := by decide +kernel
theorem dX2_mix_238 : decode cX2_mix 238 = .ok (.iload 6, 2) := by decide +kernel
theorem dX2_mix_240 : decode cX2_mix 240 = .ok (.iadd, 1) := by decide +kernel
theorem dX2_mix_241 : decode cX2_mix 241 = .ok (.iastore, 1) := by decide +kernel
theorem dX2_mix_242 : decode cX2_mix 242 = .ok (.aload_n 0, 1) := by decide +kernel
theorem dX2_mix_243 : decode cX2_mix 243 = .ok (.getfield 17, 3) := by decide +kernel
theorem dX2_mix_246 : decode cX2_mix 246 = .ok (.bipush 6, 2) := by decide +kernel
theorem dX2_mix_248 : decode cX2_mix 248 = .ok (.dup2, 1) := by decide +kernel
theorem dX2_mix_249 : decode cX2_mix 249 = .ok (.iaload, 1) := by decide +kernel
theorem dX2_mix_250 : decode cX2_mix 250 = .ok (.iload 7, 2) := by decide +kernel
theorem dX2_mix_252 : decode cX2_mix 252 = .ok (.iadd, 1) := by decide +kernel
end
section
theorem dX2_mix_253 : decode cX2_mix 253 = .ok (.iastore, 1) := by decide +kernel
theorem dX2_mix_254 : decode cX2_mix 254 = .ok (.aload_n 0, 1) := by decide +kernel
theorem dX2_mix_255 : decode cX2_mix 255 = .ok (.getfield 17, 3) := by decide +kernel
theorem dX2_mix_258 : decode cX2_mix 258 = .ok (.bipush 7, 2) := by decide +kernel
theorem dX2_mix_260 : decode cX2_mix 260 = .ok (.dup2, 1) := by decide +kernel
theorem dX2_mix_261 : decode cX2_mix 261 = .ok (.iaload, 1) := by decide +kernel
theorem dX2_mix_262 : decode cX2_mix 262 = .ok (.iload 8, 2) := by decide +kernel
theorem dX2_mix_264 : decode cX2_mix 264 = .ok (.iadd, 1) := by decide +kernel
theorem dX2_mix_265 : decode cX2_mix 265 = .ok (.iastore, 1) := by decide +kernel
theorem dX2_mix_266 : decode cX2_mix 266 = .ok (.return_, 1) := by decide +kernel
set_option maxRecDepth 20000 in
theorem ggX2_spread_X2_turned : GoodIn wsX2_spread wsX2_turned := goodIn_r _ [4] (by decide +kernel) (by decide +kernel)
set_option maxRecDepth 20000 in
theorem gX2_spread_X2_turned : GoodIn wsX2_spread (va_wsS RX2 50 yX2_turned wsX2_turned) := goodIn_app (goodIn_of _ (by decide +kernel)) ggX2_spread_X2_turned
theorem dX2_spread_0 : decode cX2_spread 0 = .ok (.iload_n 0, 1) := by decide +kernel
theorem dX2_spread_1 : decode cX2_spread 1 = .ok (.iload_n 1, 1) := by decide +kernel
theorem dX2_spread_2 : decode cX2_spread 2 = .ok (.invokestatic 50, 3) := by decide +kernel
theorem dX2_spread_5 : decode cX2_spread 5 = .ok (.iload_n 0, 1) := by decide +kernel
theorem dX2_spread_6 : decode cX2_spread 6 = .ok (.iload_n 2, 1) := by decide +kernel
theorem dX2_spread_7 : decode cX2_spread 7 = .ok (.invokestatic 50, 3) := by decide +kernel
theorem dX2_spread_10 : decode cX2_spread 10 = .ok (.ixor, 1) := by decide +kernel
theorem dX2_spread_11 : decode cX2_spread 11 = .ok (.iload_n 0, 1) := by decide +kernel
theorem dX2_spread_12 : decode cX2_spread 12 = .ok (.iload_n 3, 1) := by decide +kernel
theorem dX2_spread_13 : decode cX2_spread 13 = .ok (.iushr, 1) := by decide +kernel
theorem dX2_spread_14 : decode cX2_spread 14 = .ok (.ixor, 1) := by decide +kernel
theorem dX2_spread_15 : decode cX2_spread 15 = .ok (.ireturn, 1) := by decide +kernel
set_option maxRecDepth 20000 in
theorem ggX2_turns_X2_turned : GoodIn wsX2_turns wsX2_turned := goodIn_r _ [4] (by decide +kernel) (by decide +kernel)
set_option maxRecDepth 20000 in
theorem gX2_turns_X2_turned : GoodIn wsX2_turns (va_wsS RX2 50 yX2_turned wsX2_turned) := goodIn_app (goodIn_of _ (by decide +kernel)) ggX2_turns_X2_turned
theorem dX2_turns_0 : decode cX2_turns 0 = .ok (.iload_n 0, 1) := by decide +kernel
theorem dX2_turns_1 : decode cX2_turns 1 = .ok (.iload_n 1, 1) := by decide +kernel
theorem dX2_turns_2 : decode cX2_turns 2 = .ok (.invokestatic 50, 3) := by decide +kernel
theorem dX2_turns_5 : decode cX2_turns 5 = .ok (.iload_n 0, 1) := by decide +kernel
theorem dX2_turns_6 : decode cX2_turns 6 = .ok (.iload_n 2, 1) := by decide +kernel
theorem dX2_turns_7 : decode cX2_turns 7 = .ok (.invokestatic 50, 3) := by decide +kernel
theorem dX2_turns_10 : decode cX2_turns 10 = .ok (.ixor, 1) := by decide +kernel
theorem dX2_turns_11 : decode cX2_turns 11 = .ok (.iload_n 0, 1) := by decide +kernel
theorem dX2_turns_12 : decode cX2_turns 12 = .ok (.iload_n 3, 1) := by decide +kernel
theorem dX2_turns_13 : decode cX2_turns 13 = .ok (.invokestatic 50, 3) := by decide +kernel
theorem dX2_turns_16 : decode cX2_turns 16 = .ok (.ixor, 1) := by decide +kernel
theorem dX2_turns_17 : decode cX2_turns 17 = .ok (.ireturn, 1) := by decide +kernel
theorem dX2_turned_0 : decode cX2_turned 0 = .ok (.iload_n 0, 1) := by decide +kernel
theorem dX2_turned_1 : decode cX2_turned 1 = .ok (.iload_n 1, 1) := by decide +kernel
theorem dX2_turned_2 : decode cX2_turned 2 = .ok (.iushr, 1) := by decide +kernel
theorem dX2_turned_3 : decode cX2_turned 3 = .ok (.iload_n 0, 1) := by decide +kernel
theorem dX2_turned_4 : decode cX2_turned 4 = .ok (.bipush 32, 2) := by decide +kernel
theorem dX2_turned_6 : decode cX2_turned 6 = .ok (.iload_n 1, 1) := by decide +kernel
theorem dX2_turned_7 : decode cX2_turned 7 = .ok (.isub, 1) := by decide +kernel
theorem dX2_turned_8 : decode cX2_turned 8 = .ok (.ishl, 1) := by decide +kernel
theorem dX2_turned_9 : decode cX2_turned 9 = .ok (.ior, 1) := by decide +kernel
theorem dX2_turned_10 : decode cX2_turned 10 = .ok (.ireturn, 1) := by decide +kernel
theorem dX3_init_0 : decode cX3_init 0 = .ok (.aload_n 0, 1) := by decide +kernel
theorem dX3_init_1 : decode cX3_init 1 = .ok (.invokespecial 3, 3) := by decide +kernel
theorem dX3_init_4 : decode cX3_init 4 = .ok (.aload_n 0, 1) := by decide +kernel
theorem dX3_init_5 : decode cX3_init 5 = .ok (.sipush 256, 3) := by decide +kernel
theorem dX3_init_8 : decode cX3_init 8 = .ok (.newarray .byte, 2) := by decide +kernel
theorem dX3_init_10 : decode cX3_init 10 = .ok (.putfield 9, 3) := by decide +kernel
theorem dX3_init_13 : decode cX3_init 13 = .ok (.return_, 1) := by decide +kernel
theorem dX3_begin_0 : decode cX3_begin 0 = .ok (.iconst 0, 1) := by decide +kernel
theorem dX3_begin_1 : decode cX3_begin 1 = .ok (.istore 5, 2) := by decide +kernel
theorem dX3_begin_3 : decode cX3_begin 3 = .ok (.iload 5, 2) := by decide +kernel
theorem dX3_begin_5 : decode cX3_begin 5 = .ok (.iload 4, 2) := by decide +kernel
theorem dX3_begin_7 : decode cX3_begin 7 = .ok (.if_icmp .ge 20, 3) := by decide +kernel
theorem dX3_begin_10 : decode cX3_begin 10 = .ok (.aload_n 0, 1) := by decide +kernel
theorem dX3_begin_11 : decode cX3_begin 11 = .ok (.getfield 9, 3) := by decide +kernel
theorem dX3_begin_14 : decode cX3_begin 14 = .ok (.iload 5, 2) := by decide +kernel
theorem dX3_begin_16 : decode cX3_begin 16 = .ok (.aload_n 3, 1) := by decide +kernel
theorem dX3_begin_17 : decode cX3_begin 17 = .ok (.iload 5, 2) := by decide +kernel
theorem dX3_begin_19 : decode cX3_begin 19 = .ok (.baload, 1) := by decide +kernel
theorem dX3_begin_20 : decode cX3_begin 20 = .ok (.bastore, 1) := by decide +kernel
theorem dX3_begin_21 : decode cX3_begin 21 = .ok (.iinc 5 1, 3) := by decide +kernel
theorem dX3_begin_24 : decode cX3_begin 24 = .ok (.goto (-21), 3) := by decide +kernel
theorem dX3_begin_27 : decode cX3_begin 27 = .ok (.aload_n 0, 1) := by decide +kernel
theorem dX3_begin_28 : decode cX3_begin 28 = .ok (.iload 4, 2) := by decide +kernel
theorem dX3_begin_30 : decode cX3_begin 30 = .ok (.putfield 15, 3) := by decide +kernel
theorem dX3_begin_33 : decode cX3_begin 33 = .ok (.aload_n 0, 1) := by decide +kernel
theorem dX3_begin_34 : decode cX3_begin 34 = .ok (.iload_n 1, 1) := by decide +kernel
theorem dX3_begin_35 : decode cX3_begin 35 = .ok (.putfield 19, 3) := by decide +kernel
theorem dX3_begin_38 : decode cX3_begin 38 = .ok (.aload_n 0, 1) := by decide +kernel
theorem dX3_begin_39 : decode cX3_begin 39 = .ok (.iload_n 2, 1) := by decide +kernel
theorem dX3_begin_40 : decode cX3_begin 40 = .ok (.putfield 22, 3) := by decide +kernel
theorem dX3_begin_43 : decode cX3_begin 43 = .ok (.aload_n 0, 1) := by decide +kernel
theorem dX3_begin_44 : decode cX3_begin 44 = .ok (.iconst 1, 1) := by decide +kernel
theorem dX3_begin_45 : decode cX3_begin 45 = .ok (.putfield 25, 3) := by decide +kernel
theorem dX3_begin_48 : decode cX3_begin 48 = .ok (.aload_n 0, 1) := by decide +kernel
theorem dX3_begin_49 : decode cX3_begin 49 = .ok (.iconst 0, 1) := by decide +kernel
theorem dX3_begin_50 : decode cX3_begin 50 = .ok (.putfield 28, 3) := by decide +kernel
theorem dX3_begin_53 : decode cX3_begin 53 = .ok (.aload_n 0, 1) := by decide +kernel
theorem dX3_begin_54 : decode cX3_begin 54 = .ok (.iload_n 1, 1) := by decide +kernel
theorem dX3_begin_55 : decode cX3_begin 55 = .ok (.putfield 31, 3) := by decide +kernel
theorem dX3_begin_58 : decode cX3_begin 58 = .ok (.aload_n 0, 1) := by decide +kernel
theorem dX3_begin_59 : decode cX3_begin 59 = .ok (.iconst 0, 1) := by decide +kernel
theorem dX3_begin_60 : decode cX3_begin 60 = .ok (.putfield 34, 3) := by decide +kernel
theorem dX3_begin_63 : decode cX3_begin 63 = .ok (.return_, 1) := by decide +kernel
theorem dX3_isOf_0 : decode cX3_isOf 0 = .ok (.aload_n 0, 1) := by decide +kernel
theorem dX3_isOf_1 : decode cX3_isOf 1 = .ok (.getfield 25, 3) := by decide +kernel
theorem dX3_isOf_4 : decode cX3_isOf 4 = .ok (.ifCond .eq 15, 3) := by decide +kernel
theorem dX3_isOf_7 : decode cX3_isOf 7 = .ok (.aload_n 0, 1) := by decide +kernel
theorem dX3_isOf_8 : decode cX3_isOf 8 = .ok (.getfield 31, 3) := by decide +kernel
theorem dX3_isOf_11 : decode cX3_isOf 11 = .ok (.iload_n 1, 1) := by decide +kernel
theorem dX3_isOf_12 : decode cX3_isOf 12 = .ok (.if_icmp .ne 7, 3) := by decide +kernel
theorem dX3_isOf_15 : decode cX3_isOf 15 = .ok (.iconst 1, 1) := by decide +kernel
theorem dX3_isOf_16 : decode cX3_isOf 16 = .ok (.goto 4, 3) := by decide +kernel
theorem dX3_isOf_19 : decode cX3_isOf 19 = .ok (.iconst 0, 1) := by decide +kernel
theorem dX3_isOf_20 : decode cX3_isOf 20 = .ok (.ireturn, 1) := by decide +kernel
theorem dX3_loseBlock_0 : decode cX3_loseBlock 0 = .ok (.aload_n 0, 1) := by decide +kernel
theorem dX3_loseBlock_1 : decode cX3_loseBlock 1 = .ok (.getfield 25, 3) := by decide +kernel
theorem dX3_loseBlock_4 : decode cX3_loseBlock 4 = .ok (.iconst 1, 1) := by decide +kernel
theorem dX3_loseBlock_5 : decode cX3_loseBlock 5 = .ok (.if_icmp .ne 20, 3) := by decide +kernel
theorem dX3_loseBlock_8 : decode cX3_loseBlock 8 = .ok (.aload_n 0, 1) := by decide +kernel
theorem dX3_loseBlock_9 : decode cX3_loseBlock 9 = .ok (.getfield 28, 3) := by decide +kernel
theorem dX3_loseBlock_12 : decode cX3_loseBlock 12 = .ok (.ifCond .le 13, 3) := by decide +kernel
theorem dX3_loseBlock_15 : decode cX3_loseBlock 15 = .ok (.aload_n 0, 1) := by decide +kernel
theorem dX3_loseBlock_16 : decode cX3_loseBlock 16 = .ok (.dup, 1) := by decide +kernel
theorem dX3_loseBlock_17 : decode cX3_loseBlock 17 = .ok (.getfield 28, 3) := by decide +kernel
theorem dX3_loseBlock_20 : decode cX3_loseBlock 20 = .ok (.iconst 1, 1) := by decide +kernel
theorem dX3_loseBlock_21 : decode cX3_loseBlock 21 = .ok (.isub, 1) := by decide +kernel
theorem dX3_loseBlock_22 : decode cX3_loseBlock 22 = .ok (.putfield 28, 3) := by decide +kernel
theorem dX3_loseBlock_25 : decode cX3_loseBlock 25 = .ok (.return_, 1) := by decide +kernel
set_option maxRecDepth 20000 in
theorem ggX4_init_X2_init : GoodIn wsX4_init wsX2_init := goodIn_r _ [16, 17, 2, 3, 6, 18, 19, 20, 21, 30, 31, 32] (by decide +kernel) (by decide +kernel)
set_option maxRecDepth 20000 in
theorem gX4_init_X2_init : GoodIn wsX4_init (wsX2_init) := ggX4_init_X2_init
theorem dX4_init_0 : decode cX4_init 0 = .ok (.aload_n 0, 1) := by decide +kernel
theorem dX4_init_1 : decode cX4_init 1 = .ok (.invokespecial 1, 3) := by decide +kernel
theorem dX4_init_4 : decode cX4_init 4 = .ok (.aload_n 0, 1) := by decide +kernel
theorem dX4_init_5 : decode cX4_init 5 = .ok (.bipush 8, 2) := by decide +kernel
theorem dX4_init_7 : decode cX4_init 7 = .ok (.anewarray 9, 3) := by decide +kernel
theorem dX4_init_10 : decode cX4_init 10 = .ok (.putfield 11, 3) := by decide +kernel
theorem dX4_init_13 : decode cX4_init 13 = .ok (.aload_n 0, 1) := by decide +kernel
theorem dX4_init_14 : decode cX4_init 14 = .ok (.sipush 256, 3) := by decide +kernel
theorem dX4_init_17 : decode cX4_init 17 = .ok (.newarray .byte, 2) := by decide +kernel
theorem dX4_init_19 : decode cX4_init 19 = .ok (.putfield 15, 3) := by decide +kernel
theorem dX4_init_22 : decode cX4_init 22 = .ok (.aload_n 0, 1) := by decide +kernel
theorem dX4_init_23 : decode cX4_init 23 = .ok (.iconst 1, 1) := by decide +kernel
theorem dX4_init_24 : decode cX4_init 24 = .ok (.putfield 19, 3) := by decide +kernel
theorem dX4_init_27 : decode cX4_init 27 = .ok (.aload_n 0, 1) := by decide +kernel
theorem dX4_init_28 : decode cX4_init 28 = .ok (.iconst 1, 1) := by decide +kernel
theorem dX4_init_29 : decode cX4_init 29 = .ok (.putfield 23, 3) := by decide +kernel
theorem dX4_init_32 : decode cX4_init 32 = .ok (.aload_n 0, 1) := by decide +kernel
theorem dX4_init_33 : decode cX4_init 33 = .ok (.new 26, 3) := by decide +kernel
theorem dX4_init_36 : decode cX4_init 36 = .ok (.dup, 1) := by decide +kernel
theorem dX4_init_37 : decode cX4_init 37 = .ok (.invokespecial 28, 3) := by decide +kernel
theorem dX4_init_40 : decode cX4_init 40 = .ok (.putfield 29, 3) := by decide +kernel
theorem dX4_init_43 : decode cX4_init 43 = .ok (.return_, 1) := by decide +kernel
set_option maxRecDepth 20000 in
theorem ggX4_controller_X1_init : GoodIn wsX4_controller wsX1_init := goodIn_r _ [8, 9, 10, 11, 12, 13, 14, 15, 16, 17, 18, 19, 20, 21, 22, 23, 24, 25, 26, 27, 28, 29, 30, 31, 40, 41, 42, 43, 44, 45, 46, 47, 48, 49, 50, 51, 52, 53, 54, 55, 56, 57, 58, 59, 60] (by decide +kernel) (by decide +kernel)
set_option maxRecDepth 20000 in
theorem gX4_controller_X1_init : GoodIn wsX4_controller (wsX1_init) := ggX4_controller_X1_init
theorem dX4_controller_0 : decode cX4_controller 0 = .ok (.iload_n 1, 1) := by decide +kernel
theorem dX4_controller_1 : decode cX4_controller 1 = .ok (.iconst 1, 1) := by decide +kernel
theorem dX4_controller_2 : decode cX4_controller 2 = .ok (.if_icmp .lt 9, 3) := by decide +kernel
theorem dX4_controller_5 : decode cX4_controller 5 = .ok (.iload_n 1, 1) := by decide +kernel
theorem dX4_controller_6 : decode cX4_controller 6 = .ok (.bipush 127, 2) := by decide +kernel
theorem dX4_controller_8 : decode cX4_controller 8 = .ok (.if_icmp .le 6, 3) := by decide +kernel
theorem dX4_controller_11 : decode cX4_controller 11 = .ok (.bipush (-2), 2) := by decide +kernel
theorem dX4_controller_13 : decode cX4_controller 13 = .ok (.ireturn, 1) := by decide +kernel
theorem dX4_controller_14 : decode cX4_controller 14 = .ok (.aload_n 0, 1) := by decide +kernel
theorem dX4_controller_15 : decode cX4_controller 15 = .ok (.getfield 33, 3) := by decide +kernel
theorem dX4_controller_18 : decode cX4_controller 18 = .ok (.bipush 8, 2) := by decide +kernel
theorem dX4_controller_20 : decode cX4_controller 20 = .ok (.if_icmp .lt 6, 3) := by decide +kernel
theorem dX4_controller_23 : decode cX4_controller 23 = .ok (.bipush (-4), 2) := by decide +kernel
theorem dX4_controller_25 : decode cX4_controller 25 = .ok (.ireturn, 1) := by decide +kernel
theorem dX4_controller_26 : decode cX4_controller 26 = .ok (.aload_n 0, 1) := by decide +kernel
theorem dX4_controller_27 : decode cX4_controller 27 = .ok (.getfield 11, 3) := by decide +kernel
theorem dX4_controller_30 : decode cX4_controller 30 = .ok (.aload_n 0, 1) := by decide +kernel
theorem dX4_controller_31 : decode cX4_controller 31 = .ok (.getfield 33, 3) := by decide +kernel
theorem dX4_controller_34 : decode cX4_controller 34 = .ok (.new 9, 3) := by decide +kernel
theorem dX4_controller_37 : decode cX4_controller 37 = .ok (.dup, 1) := by decide +kernel
theorem dX4_controller_38 : decode cX4_controller 38 = .ok (.iload_n 1, 1) := by decide +kernel
theorem dX4_controller_39 : decode cX4_controller 39 = .ok (.invokespecial 37, 3) := by decide +kernel
theorem dX4_controller_42 : decode cX4_controller 42 = .ok (.aastore, 1) := by decide +kernel
theorem dX4_controller_43 : decode cX4_controller 43 = .ok (.aload_n 0, 1) := by decide +kernel
theorem dX4_controller_44 : decode cX4_controller 44 = .ok (.dup, 1) := by decide +kernel
theorem dX4_controller_45 : decode cX4_controller 45 = .ok (.getfield 33, 3) := by decide +kernel
theorem dX4_controller_48 : decode cX4_controller 48 = .ok (.iconst 1, 1) := by decide +kernel
theorem dX4_controller_49 : decode cX4_controller 49 = .ok (.iadd, 1) := by decide +kernel
theorem dX4_controller_50 : decode cX4_controller 50 = .ok (.putfield 33, 3) := by decide +kernel
theorem dX4_controller_53 : decode cX4_controller 53 = .ok (.aload_n 0, 1) := by decide +kernel
theorem dX4_controller_54 : decode cX4_controller 54 = .ok (.getfield 33, 3) := by decide +kernel
theorem dX4_controller_57 : decode cX4_controller 57 = .ok (.ireturn, 1) := by decide +kernel
theorem dX4_octet_0 : decode cX4_octet 0 = .ok (.aload_n 0, 1) := by decide +kernel
theorem dX4_octet_1 : decode cX4_octet 1 = .ok (.getfield 40, 3) := by decide +kernel
theorem dX4_octet_4 : decode cX4_octet 4 = .ok (.sipush 256, 3) := by decide +kernel
theorem dX4_octet_7 : decode cX4_octet 7 = .ok (.if_icmp .ge 23, 3) := by decide +kernel
theorem dX4_octet_10 : decode cX4_octet 10 = .ok (.aload_n 0, 1) := by decide +kernel
theorem dX4_octet_11 : decode cX4_octet 11 = .ok (.getfield 15, 3) := by decide +kernel
theorem dX4_octet_14 : decode cX4_octet 14 = .ok (.aload_n 0, 1) := by decide +kernel
theorem dX4_octet_15 : decode cX4_octet 15 = .ok (.getfield 40, 3) := by decide +kernel
theorem dX4_octet_18 : decode cX4_octet 18 = .ok (.iload_n 1, 1) := by decide +kernel
theorem dX4_octet_19 : decode cX4_octet 19 = .ok (.bastore, 1) := by decide +kernel
theorem dX4_octet_20 : decode cX4_octet 20 = .ok (.aload_n 0, 1) := by decide +kernel
theorem dX4_octet_21 : decode cX4_octet 21 = .ok (.dup, 1) := by decide +kernel
theorem dX4_octet_22 : decode cX4_octet 22 = .ok (.getfield 40, 3) := by decide +kernel
theorem dX4_octet_25 : decode cX4_octet 25 = .ok (.iconst 1, 1) := by decide +kernel
theorem dX4_octet_26 : decode cX4_octet 26 = .ok (.iadd, 1) := by decide +kernel
theorem dX4_octet_27 : decode cX4_octet 27 = .ok (.putfield 40, 3) := by decide +kernel
theorem dX4_octet_30 : decode cX4_octet 30 = .ok (.return_, 1) := by decide +kernel
set_option maxRecDepth 20000 in
theorem ggX4_package0_X4_find : GoodIn wsX4_package0 wsX4_find := goodIn_r _ [10, 11, 12, 69, 70, 71, 72, 73, 74, 75, 76] (by decide +kernel) (by decide +kernel)
set_option maxRecDepth 20000 in
theorem gX4_package0_X4_find : GoodIn wsX4_package0 (wsV RX4 43 RX4 yX4_find wsX4_find) := goodIn_app (goodIn_of _ (by decide +kernel)) ggX4_package0_X4_find
set_option maxRecDepth 20000 in
theorem ggX4_package0_X4_refusalOf : GoodIn wsX4_package0 wsX4_refusalOf := goodIn_ca (goodIn_r _ [16, 4, 2, 17, 1, 3, 18, 19, 69, 70, 71, 72, 73, 74, 75, 76, 77, 78, 79, 80, 81, 82, 83, 84, 85, 86, 87, 88, 89, 90, 91, 92, 93, 94] (by decide +kernel) (by decide +kernel)) (goodIn_sub (fun _ h => List.mem_cons_of_mem _ (List.mem_append_right _ h)) (by decide +kernel))
set_option maxRecDepth 20000 in
theorem gX4_package0_X4_refusalOf : GoodIn wsX4_package0 (wsV RX4 47 RX4 yX4_refusalOf wsX4_refusalOf) := goodIn_app (goodIn_of _ (by decide +kernel)) ggX4_package0_X4_refusalOf
set_option maxRecDepth 20000 in
theorem ggX4_package0_X3_begin : GoodIn wsX4_package0 wsX3_begin := goodIn_ca (goodIn_r _ [24, 25, 26, 27, 28, 29, 30, 31, 32, 87, 88, 89, 90, 91, 92, 93, 94] (by decide +kernel) (by decide +kernel)) (goodIn_sub (fun _ h => List.mem_cons_of_mem _ (List.mem_append_right _ h)) (by decide +kernel))
set_option maxRecDepth 20000 in
theorem gX4_package0_X3_begin : GoodIn wsX4_package0 (wsV RX4 58 RX3 yX3_begin wsX3_begin) := goodIn_app (goodIn_of _ (by decide +kernel)) ggX4_package0_X3_begin
set_option maxRecDepth 20000 in
theorem ggX4_package0_X2_digestOf : GoodIn wsX4_package0 wsX2_digestOf := goodIn_ca (goodIn_r _ [37, 38, 39, 40, 41, 42, 36, 43, 44, 45, 46, 47, 48, 49, 50, 51, 52, 53, 54, 55, 56, 57, 58, 59, 60, 61, 62, 63, 64, 65, 66, 67, 68, 95, 96, 97] (by decide +kernel) (by decide +kernel)) (goodIn_sub (fun _ h => List.mem_cons_of_mem _ (List.mem_append_right _ h)) (by decide +kernel))
set_option maxRecDepth 20000 in
theorem gX4_package0_X2_digestOf : GoodIn wsX4_package0 (wsV RX4 64 RX2 yX2_digestOf wsX2_digestOf) := goodIn_app (goodIn_of _ (by decide +kernel)) ggX4_package0_X2_digestOf
theorem dX4_package0_0 : decode cX4_package0 0 = .ok (.aload_n 0, 1) := by decide +kernel
theorem dX4_package0_1 : decode cX4_package0 1 = .ok (.iload_n 1, 1) := by decide +kernel
theorem dX4_package0_2 : decode cX4_package0 2 = .ok (.invokevirtual 43, 3) := by decide +kernel
theorem dX4_package0_5 : decode cX4_package0 5 = .ok (.astore 4, 2) := by decide +kernel
theorem dX4_package0_7 : decode cX4_package0 7 = .ok (.aload 4, 2) := by decide +kernel
theorem dX4_package0_9 : decode cX4_package0 9 = .ok (.ifnonnull 5, 3) := by decide +kernel
theorem dX4_package0_12 : decode cX4_package0 12 = .ok (.iconst (-1), 1) := by decide +kernel
theorem dX4_package0_13 : decode cX4_package0 13 = .ok (.ireturn, 1) := by decide +kernel
theorem dX4_package0_14 : decode cX4_package0 14 = .ok (.aload_n 0, 1) := by decide +kernel
theorem dX4_package0_15 : decode cX4_package0 15 = .ok (.aload 4, 2) := by decide +kernel
theorem dX4_package0_17 : decode cX4_package0 17 = .ok (.iload_n 2, 1) := by decide +kernel
theorem dX4_package0_18 : decode cX4_package0 18 = .ok (.iload_n 3, 1) := by decide +kernel
theorem dX4_package0_19 : decode cX4_package0 19 = .ok (.invokevirtual 47, 3) := by decide +kernel
theorem dX4_package0_22 : decode cX4_package0 22 = .ok (.istore 5, 2) := by decide +kernel
theorem dX4_package0_24 : decode cX4_package0 24 = .ok (.iload 5, 2) := by decide +kernel
theorem dX4_package0_26 : decode cX4_package0 26 = .ok (.ifCond .eq 6, 3) := by decide +kernel
theorem dX4_package0_29 : decode cX4_package0 29 = .ok (.iload 5, 2) := by decide +kernel
theorem dX4_package0_31 : decode cX4_package0 31 = .ok (.ireturn, 1) := by decide +kernel
theorem dX4_package0_32 : decode cX4_package0 32 = .ok (.aload_n 0, 1) := by decide +kernel
theorem dX4_package0_33 : decode cX4_package0 33 = .ok (.dup, 1) := by decide +kernel
theorem dX4_package0_34 : decode cX4_package0 34 = .ok (.getfield 51, 3) := by decide +kernel
theorem dX4_package0_37 : decode cX4_package0 37 = .ok (.iconst 1, 1) := by decide +kernel
theorem dX4_package0_38 : decode cX4_package0 38 = .ok (.iadd, 1) := by decide +kernel
theorem dX4_package0_39 : decode cX4_package0 39 = .ok (.putfield 51, 3) := by decide +kernel
theorem dX4_package0_42 : decode cX4_package0 42 = .ok (.aload 4, 2) := by decide +kernel
theorem dX4_package0_44 : decode cX4_package0 44 = .ok (.getfield 54, 3) := by decide +kernel
theorem dX4_package0_47 : decode cX4_package0 47 = .ok (.aload_n 0, 1) := by decide +kernel
theorem dX4_package0_48 : decode cX4_package0 48 = .ok (.getfield 51, 3) := by decide +kernel
theorem dX4_package0_51 : decode cX4_package0 51 = .ok (.iload_n 2, 1) := by decide +kernel
theorem dX4_package0_52 : decode cX4_package0 52 = .ok (.aload_n 0, 1) := by decide +kernel
theorem dX4_package0_53 : decode cX4_package0 53 = .ok (.getfield 15, 3) := by decide +kernel
theorem dX4_package0_56 : decode cX4_package0 56 = .ok (.aload_n 0, 1) := by decide +kernel
theorem dX4_package0_57 : decode cX4_package0 57 = .ok (.getfield 40, 3) := by decide +kernel
theorem dX4_package0_60 : decode cX4_package0 60 = .ok (.invokevirtual 58, 3) := by decide +kernel
theorem dX4_package0_63 : decode cX4_package0 63 = .ok (.aload_n 0, 1) := by decide +kernel
theorem dX4_package0_64 : decode cX4_package0 64 = .ok (.getfield 29, 3) := by decide +kernel
theorem dX4_package0_67 : decode cX4_package0 67 = .ok (.aload_n 0, 1) := by decide +kernel
theorem dX4_package0_68 : decode cX4_package0 68 = .ok (.getfield 15, 3) := by decide +kernel
theorem dX4_package0_71 : decode cX4_package0 71 = .ok (.aload_n 0, 1) := by decide +kernel
theorem dX4_package0_72 : decode cX4_package0 72 = .ok (.getfield 40, 3) := by decide +kernel
theorem dX4_package0_75 : decode cX4_package0 75 = .ok (.invokevirtual 64, 3) := by decide +kernel
theorem dX4_package0_78 : decode cX4_package0 78 = .ok (.aload_n 0, 1) := by decide +kernel
theorem dX4_package0_79 : decode cX4_package0 79 = .ok (.iconst 0, 1) := by decide +kernel
theorem dX4_package0_80 : decode cX4_package0 80 = .ok (.putfield 40, 3) := by decide +kernel
theorem dX4_package0_83 : decode cX4_package0 83 = .ok (.aload_n 0, 1) := by decide +kernel
theorem dX4_package0_84 : decode cX4_package0 84 = .ok (.getfield 51, 3) := by decide +kernel
theorem dX4_package0_87 : decode cX4_package0 87 = .ok (.ireturn, 1) := by decide +kernel
set_option maxRecDepth 20000 in
theorem ggX4_digest_X2_resultOctet : GoodIn wsX4_digest wsX2_resultOctet := goodIn_ca (goodIn_r _ [10, 11, 26, 27, 28] (by decide +kernel) (by decide +kernel)) (goodIn_sub (fun _ h => List.mem_cons_of_mem _ (List.mem_append_right _ h)) (by decide +kernel))
set_option maxRecDepth 20000 in
theorem gX4_digest_X2_resultOctet : GoodIn wsX4_digest (wsV RX4 75 RX2 yX2_resultOctet wsX2_resultOctet) := goodIn_app (goodIn_of _ (by decide +kernel)) ggX4_digest_X2_resultOctet
theorem dX4_digest_0 : decode cX4_digest 0 = .ok (.aload_n 0, 1) := by decide +kernel
theorem dX4_digest_1 : decode cX4_digest 1 = .ok (.getfield 51, 3) := by decide +kernel
theorem dX4_digest_4 : decode cX4_digest 4 = .ok (.ifCond .eq 13, 3) := by decide +kernel
theorem dX4_digest_7 : decode cX4_digest 7 = .ok (.iload_n 1, 1) := by decide +kernel
theorem dX4_digest_8 : decode cX4_digest 8 = .ok (.ifCond .lt 9, 3) := by decide +kernel
theorem dX4_digest_11 : decode cX4_digest 11 = .ok (.iload_n 1, 1) := by decide +kernel
theorem dX4_digest_12 : decode cX4_digest 12 = .ok (.bipush 32, 2) := by decide +kernel
theorem dX4_digest_14 : decode cX4_digest 14 = .ok (.if_icmp .lt 13, 3) := by decide +kernel
theorem dX4_digest_17 : decode cX4_digest 17 = .ok (.new 68, 3) := by decide +kernel
theorem dX4_digest_20 : decode cX4_digest 20 = .ok (.dup, 1) := by decide +kernel
theorem dX4_digest_21 : decode cX4_digest 21 = .ok (.ldc 70, 2) := by decide +kernel
theorem dX4_digest_23 : decode cX4_digest 23 = .ok (.invokespecial 72, 3) := by decide +kernel
theorem dX4_digest_26 : decode cX4_digest 26 = .ok (.athrow, 1) := by decide +kernel
theorem dX4_digest_27 : decode cX4_digest 27 = .ok (.aload_n 0, 1) := by decide +kernel
theorem dX4_digest_28 : decode cX4_digest 28 = .ok (.getfield 29, 3) := by decide +kernel
theorem dX4_digest_31 : decode cX4_digest 31 = .ok (.iload_n 1, 1) := by decide +kernel
theorem dX4_digest_32 : decode cX4_digest 32 = .ok (.invokevirtual 75, 3) := by decide +kernel
theorem dX4_digest_35 : decode cX4_digest 35 = .ok (.ireturn, 1) := by decide +kernel
set_option maxRecDepth 20000 in
theorem ggX4_needs_X4_isPackage : GoodIn wsX4_needs wsX4_isPackage := goodIn_r _ [7, 8, 37, 38, 39, 40, 41, 42, 43, 44] (by decide +kernel) (by decide +kernel)
set_option maxRecDepth 20000 in
theorem gX4_needs_X4_isPackage : GoodIn wsX4_needs (wsV RX4 79 RX4 yX4_isPackage wsX4_isPackage) := goodIn_app (goodIn_of _ (by decide +kernel)) ggX4_needs_X4_isPackage
set_option maxRecDepth 20000 in
theorem ggX4_needs_X4_findOpen : GoodIn wsX4_needs wsX4_findOpen := goodIn_r _ [12, 13, 14, 15, 16, 17, 37, 38, 39, 40, 41, 42, 43, 44, 45, 46, 47, 48, 49, 50, 51, 52, 53, 54, 29, 30, 31, 32, 33, 34, 35, 36] (by decide +kernel) (by decide +kernel)
set_option maxRecDepth 20000 in
theorem gX4_needs_X4_findOpen : GoodIn wsX4_needs (wsV RX4 83 RX4 yX4_findOpen wsX4_findOpen) := goodIn_app (goodIn_of _ (by decide +kernel)) ggX4_needs_X4_findOpen
set_option maxRecDepth 20000 in
theorem ggX4_needs_X4_joinSets : GoodIn wsX4_needs wsX4_joinSets := goodIn_r _ [21, 13, 14, 15, 2, 22, 23, 24, 25, 26, 27, 28, 37, 38, 39, 40, 41, 42, 43, 44, 45, 46, 47, 48, 49, 50, 51, 52, 53, 54, 29, 30, 31, 32, 33, 34, 35, 36] (by decide +kernel) (by decide +kernel)
set_option maxRecDepth 20000 in
theorem gX4_needs_X4_joinSets : GoodIn wsX4_needs (wsV RX4 93 RX4 yX4_joinSets wsX4_joinSets) := goodIn_app (goodIn_of _ (by decide +kernel)) ggX4_needs_X4_joinSets
theorem dX4_needs_0 : decode cX4_needs 0 = .ok (.aload_n 0, 1) := by decide +kernel
theorem dX4_needs_1 : decode cX4_needs 1 = .ok (.iload_n 1, 1) := by decide +kernel
theorem dX4_needs_2 : decode cX4_needs 2 = .ok (.invokevirtual 79, 3) := by decide +kernel
theorem dX4_needs_5 : decode cX4_needs 5 = .ok (.ifCond .eq 11, 3) := by decide +kernel
theorem dX4_needs_8 : decode cX4_needs 8 = .ok (.aload_n 0, 1) := by decide +kernel
theorem dX4_needs_9 : decode cX4_needs 9 = .ok (.iload_n 2, 1) := by decide +kernel
theorem dX4_needs_10 : decode cX4_needs 10 = .ok (.invokevirtual 79, 3) := by decide +kernel
theorem dX4_needs_13 : decode cX4_needs 13 = .ok (.ifCond .ne 5, 3) := by decide +kernel
theorem dX4_needs_16 : decode cX4_needs 16 = .ok (.iconst (-1), 1) := by decide +kernel
theorem dX4_needs_17 : decode cX4_needs 17 = .ok (.ireturn, 1) := by decide +kernel
theorem dX4_needs_18 : decode cX4_needs 18 = .ok (.iload_n 1, 1) := by decide +kernel
theorem dX4_needs_19 : decode cX4_needs 19 = .ok (.iload_n 2, 1) := by decide +kernel
theorem dX4_needs_20 : decode cX4_needs 20 = .ok (.if_icmp .ne 6, 3) := by decide +kernel
theorem dX4_needs_23 : decode cX4_needs 23 = .ok (.bipush (-2), 2) := by decide +kernel
theorem dX4_needs_25 : decode cX4_needs 25 = .ok (.ireturn, 1) := by decide +kernel
theorem dX4_needs_26 : decode cX4_needs 26 = .ok (.aload_n 0, 1) := by decide +kernel
theorem dX4_needs_27 : decode cX4_needs 27 = .ok (.iload_n 1, 1) := by decide +kernel
theorem dX4_needs_28 : decode cX4_needs 28 = .ok (.invokevirtual 83, 3) := by decide +kernel
theorem dX4_needs_31 : decode cX4_needs 31 = .ok (.astore_n 3, 1) := by decide +kernel
theorem dX4_needs_32 : decode cX4_needs 32 = .ok (.aload_n 0, 1) := by decide +kernel
theorem dX4_needs_33 : decode cX4_needs 33 = .ok (.iload_n 2, 1) := by decide +kernel
theorem dX4_needs_34 : decode cX4_needs 34 = .ok (.invokevirtual 83, 3) := by decide +kernel
theorem dX4_needs_37 : decode cX4_needs 37 = .ok (.astore 4, 2) := by decide +kernel
theorem dX4_needs_39 : decode cX4_needs 39 = .ok (.aload_n 3, 1) := by decide +kernel
theorem dX4_needs_40 : decode cX4_needs 40 = .ok (.ifnull 23, 3) := by decide +kernel
theorem dX4_needs_43 : decode cX4_needs 43 = .ok (.aload 4, 2) := by decide +kernel
theorem dX4_needs_45 : decode cX4_needs 45 = .ok (.ifnull 18, 3) := by decide +kernel
theorem dX4_needs_48 : decode cX4_needs 48 = .ok (.aload_n 3, 1) := by decide +kernel
theorem dX4_needs_49 : decode cX4_needs 49 = .ok (.getfield 87, 3) := by decide +kernel
theorem dX4_needs_52 : decode cX4_needs 52 = .ok (.ifCond .ne 11, 3) := by decide +kernel
theorem dX4_needs_55 : decode cX4_needs 55 = .ok (.aload 4, 2) := by decide +kernel
theorem dX4_needs_57 : decode cX4_needs 57 = .ok (.getfield 87, 3) := by decide +kernel
theorem dX4_needs_60 : decode cX4_needs 60 = .ok (.ifCond .eq 6, 3) := by decide +kernel
theorem dX4_needs_63 : decode cX4_needs 63 = .ok (.bipush (-3), 2) := by decide +kernel
theorem dX4_needs_65 : decode cX4_needs 65 = .ok (.ireturn, 1) := by decide +kernel
theorem dX4_needs_66 : decode cX4_needs 66 = .ok (.aload_n 0, 1) := by decide +kernel
theorem dX4_needs_67 : decode cX4_needs 67 = .ok (.aload_n 3, 1) := by decide +kernel
theorem dX4_needs_68 : decode cX4_needs 68 = .ok (.getfield 90, 3) := by decide +kernel
theorem dX4_needs_71 : decode cX4_needs 71 = .ok (.aload 4, 2) := by decide +kernel
theorem dX4_needs_73 : decode cX4_needs 73 = .ok (.getfield 90, 3) := by decide +kernel
theorem dX4_needs_76 : decode cX4_needs 76 = .ok (.invokevirtual 93, 3) := by decide +kernel
theorem dX4_needs_79 : decode cX4_needs 79 = .ok (.ireturn, 1) := by decide +kernel
set_option maxRecDepth 20000 in
theorem ggX4_block_X4_find : GoodIn wsX4_block wsX4_find := goodIn_r _ [7, 8, 9, 20, 21, 22, 23, 24, 25, 26, 27] (by decide +kernel) (by decide +kernel)
set_option maxRecDepth 20000 in
theorem gX4_block_X4_find : GoodIn wsX4_block (wsV RX4 43 RX4 yX4_find wsX4_find) := goodIn_app (goodIn_of _ (by decide +kernel)) ggX4_block_X4_find
theorem dX4_block_0 : decode cX4_block 0 = .ok (.aload_n 0, 1) := by decide +kernel
theorem dX4_block_1 : decode cX4_block 1 = .ok (.iload_n 1, 1) := by decide +kernel
theorem dX4_block_2 : decode cX4_block 2 = .ok (.invokevirtual 43, 3) := by decide +kernel
theorem dX4_block_5 : decode cX4_block 5 = .ok (.astore 4, 2) := by decide +kernel
theorem dX4_block_7 : decode cX4_block 7 = .ok (.aload 4, 2) := by decide +kernel
theorem dX4_block_9 : decode cX4_block 9 = .ok (.ifnonnull 5, 3) := by decide +kernel
theorem dX4_block_12 : decode cX4_block 12 = .ok (.iconst (-1), 1) := by decide +kernel
theorem dX4_block_13 : decode cX4_block 13 = .ok (.ireturn, 1) := by decide +kernel
theorem dX4_block_14 : decode cX4_block 14 = .ok (.iload_n 2, 1) := by decide +kernel
theorem dX4_block_15 : decode cX4_block 15 = .ok (.ifCond .lt 13, 3) := by decide +kernel
theorem dX4_block_18 : decode cX4_block 18 = .ok (.iload_n 2, 1) := by decide +kernel
theorem dX4_block_19 : decode cX4_block 19 = .ok (.bipush 16, 2) := by decide +kernel
theorem dX4_block_21 : decode cX4_block 21 = .ok (.if_icmp .ge 7, 3) := by decide +kernel
theorem dX4_block_24 : decode cX4_block 24 = .ok (.iload_n 3, 1) := by decide +kernel
theorem dX4_block_25 : decode cX4_block 25 = .ok (.ifCond .ne 6, 3) := by decide +kernel
theorem dX4_block_28 : decode cX4_block 28 = .ok (.bipush (-2), 2) := by decide +kernel
theorem dX4_block_30 : decode cX4_block 30 = .ok (.ireturn, 1) := by decide +kernel
theorem dX4_block_31 : decode cX4_block 31 = .ok (.aload 4, 2) := by decide +kernel
theorem dX4_block_33 : decode cX4_block 33 = .ok (.iload_n 2, 1) := by decide +kernel
theorem dX4_block_34 : decode cX4_block 34 = .ok (.putfield 97, 3) := by decide +kernel
theorem dX4_block_37 : decode cX4_block 37 = .ok (.aload 4, 2) := by decide +kernel
theorem dX4_block_39 : decode cX4_block 39 = .ok (.iload_n 3, 1) := by decide +kernel
theorem dX4_block_40 : decode cX4_block 40 = .ok (.putfield 100, 3) := by decide +kernel
theorem dX4_block_43 : decode cX4_block 43 = .ok (.iconst 1, 1) := by decide +kernel
theorem dX4_block_44 : decode cX4_block 44 = .ok (.ireturn, 1) := by decide +kernel
set_option maxRecDepth 20000 in
theorem ggX4_condition_X4_bothHold : GoodIn wsX4_condition wsX4_bothHold := goodIn_r _ [7, 1, 2, 8, 9, 10, 11, 12, 13, 14, 15] (by decide +kernel) (by decide +kernel)
set_option maxRecDepth 20000 in
theorem gX4_condition_X4_bothHold : GoodIn wsX4_condition (wsV RX4 104 RX4 yX4_bothHold wsX4_bothHold) := goodIn_app (goodIn_of _ (by decide +kernel)) ggX4_condition_X4_bothHold
theorem dX4_condition_0 : decode cX4_condition 0 = .ok (.iload_n 1, 1) := by decide +kernel
theorem dX4_condition_1 : decode cX4_condition 1 = .ok (.ifCond .ne 11, 3) := by decide +kernel
theorem dX4_condition_4 : decode cX4_condition 4 = .ok (.aload_n 0, 1) := by decide +kernel
theorem dX4_condition_5 : decode cX4_condition 5 = .ok (.iload_n 2, 1) := by decide +kernel
theorem dX4_condition_6 : decode cX4_condition 6 = .ok (.putfield 19, 3) := by decide +kernel
theorem dX4_condition_9 : decode cX4_condition 9 = .ok (.goto 18, 3) := by decide +kernel
theorem dX4_condition_12 : decode cX4_condition 12 = .ok (.iload_n 1, 1) := by decide +kernel
theorem dX4_condition_13 : decode cX4_condition 13 = .ok (.iconst 1, 1) := by decide +kernel
theorem dX4_condition_14 : decode cX4_condition 14 = .ok (.if_icmp .ne 11, 3) := by decide +kernel
theorem dX4_condition_17 : decode cX4_condition 17 = .ok (.aload_n 0, 1) := by decide +kernel
theorem dX4_condition_18 : decode cX4_condition 18 = .ok (.iload_n 2, 1) := by decide +kernel
theorem dX4_condition_19 : decode cX4_condition 19 = .ok (.putfield 23, 3) := by decide +kernel
theorem dX4_condition_22 : decode cX4_condition 22 = .ok (.goto 5, 3) := by decide +kernel
theorem dX4_condition_25 : decode cX4_condition 25 = .ok (.iconst (-1), 1) := by decide +kernel
theorem dX4_condition_26 : decode cX4_condition 26 = .ok (.ireturn, 1) := by decide +kernel
theorem dX4_condition_27 : decode cX4_condition 27 = .ok (.aload_n 0, 1) := by decide +kernel
theorem dX4_condition_28 : decode cX4_condition 28 = .ok (.invokevirtual 104, 3) := by decide +kernel
theorem dX4_condition_31 : decode cX4_condition 31 = .ok (.ifCond .eq 7, 3) := by decide +kernel
theorem dX4_condition_34 : decode cX4_condition 34 = .ok (.iconst 1, 1) := by decide +kernel
theorem dX4_condition_35 : decode cX4_condition 35 = .ok (.goto 4, 3) := by decide +kernel
theorem dX4_condition_38 : decode cX4_condition 38 = .ok (.iconst 0, 1) := by decide +kernel
theorem dX4_condition_39 : decode cX4_condition 39 = .ok (.ireturn, 1) := by decide +kernel
set_option maxRecDepth 20000 in
theorem ggX4_step_X4_find : GoodIn wsX4_step wsX4_find := goodIn_r _ [7, 8, 9, 107, 108, 109, 110, 111, 112, 113, 114] (by decide +kernel) (by decide +kernel)
set_option maxRecDepth 20000 in
theorem gX4_step_X4_find : GoodIn wsX4_step (wsV RX4 43 RX4 yX4_find wsX4_find) := goodIn_app (goodIn_of _ (by decide +kernel)) ggX4_step_X4_find
set_option maxRecDepth 20000 in
theorem ggX4_step_X1_isAway : GoodIn wsX4_step wsX1_isAway := goodIn_r _ [14, 15, 16, 89, 90, 91, 92, 93, 94, 95, 96, 97, 98] (by decide +kernel) (by decide +kernel)
set_option maxRecDepth 20000 in
theorem gX4_step_X1_isAway : GoodIn wsX4_step (wsV RX4 108 RX1 yX1_isAway wsX1_isAway) := goodIn_app (goodIn_of _ (by decide +kernel)) ggX4_step_X1_isAway
set_option maxRecDepth 20000 in
theorem ggX4_step_X4_stepOfReady : GoodIn wsX4_step wsX4_stepOfReady := goodIn_r _ [20, 1, 21, 22, 23, 24, 25, 6, 26, 2, 27, 28, 29, 13, 30, 31, 32, 33, 34, 35, 36, 37, 38, 8, 9, 39, 40, 41, 42, 43, 44, 45, 46, 47, 48, 49, 50, 51, 52, 53, 54, 55, 56, 57, 58, 59, 60, 61, 10, 11, 12, 14, 15, 16, 62, 63, 64, 65, 89, 90, 91, 92, 93, 94, 95, 96, 97, 98, 99, 100, 101, 102, 103, 104, 105, 106, 115, 116, 117, 107, 108, 109, 110, 111, 112, 113, 114] (by decide +kernel) (by decide +kernel)
set_option maxRecDepth 20000 in
theorem gX4_step_X4_stepOfReady : GoodIn wsX4_step (wsV RX4 114 RX4 yX4_stepOfReady wsX4_stepOfReady) := goodIn_app (goodIn_of _ (by decide +kernel)) ggX4_step_X4_stepOfReady
set_option maxRecDepth 20000 in
theorem ggX4_step_X4_bothHold : GoodIn wsX4_step wsX4_bothHold := goodIn_r _ [55, 56, 57, 107, 108, 109, 110, 111, 112, 113, 114] (by decide +kernel) (by decide +kernel)
set_option maxRecDepth 20000 in
theorem gX4_step_X4_bothHold : GoodIn wsX4_step (wsV RX4 104 RX4 yX4_bothHold wsX4_bothHold) := goodIn_app (goodIn_of _ (by decide +kernel)) ggX4_step_X4_bothHold
set_option maxRecDepth 20000 in
theorem ggX4_step_X1_writeNextBlock : GoodIn wsX4_step wsX1_writeNextBlock := goodIn_ca (goodIn_r _ [69, 32, 31, 70, 71, 72, 73, 74, 75, 76, 77, 78, 79, 80, 81, 82, 83, 13, 84, 85, 33, 86, 87, 88, 89, 90, 91, 92, 93, 94, 95, 96, 97, 98, 99, 100, 101, 102, 103, 104, 105, 106, 115, 116, 117] (by decide +kernel) (by decide +kernel)) (goodIn_sub (fun _ h => List.mem_cons_of_mem _ (List.mem_append_right _ h)) (by decide +kernel))
set_option maxRecDepth 20000 in
theorem gX4_step_X1_writeNextBlock : GoodIn wsX4_step (wsV RX4 118 RX1 yX1_writeNextBlock wsX1_writeNextBlock) := goodIn_app (goodIn_of _ (by decide +kernel)) ggX4_step_X1_writeNextBlock
theorem dX4_step_0 : decode cX4_step 0 = .ok (.aload_n 0, 1) := by decide +kernel
theorem dX4_step_1 : decode cX4_step 1 = .ok (.iload_n 1, 1) := by decide +kernel
theorem dX4_step_2 : decode cX4_step 2 = .ok (.invokevirtual 43, 3) := by decide +kernel
theorem dX4_step_5 : decode cX4_step 5 = .ok (.astore_n 2, 1) := by decide +kernel
theorem dX4_step_6 : decode cX4_step 6 = .ok (.aload_n 2, 1) := by decide +kernel
theorem dX4_step_7 : decode cX4_step 7 = .ok (.ifnonnull 5, 3) := by decide +kernel
theorem dX4_step_10 : decode cX4_step 10 = .ok (.iconst (-1), 1) := by decide +kernel
theorem dX4_step_11 : decode cX4_step 11 = .ok (.ireturn, 1) := by decide +kernel
theorem dX4_step_12 : decode cX4_step 12 = .ok (.aload_n 2, 1) := by decide +kernel
theorem dX4_step_13 : decode cX4_step 13 = .ok (.invokevirtual 108, 3) := by decide +kernel
theorem dX4_step_16 : decode cX4_step 16 = .ok (.ifCond .eq 6, 3) := by decide +kernel
theorem dX4_step_19 : decode cX4_step 19 = .ok (.bipush (-3), 2) := by decide +kernel
theorem dX4_step_21 : decode cX4_step 21 = .ok (.ireturn, 1) := by decide +kernel
theorem dX4_step_22 : decode cX4_step 22 = .ok (.aload_n 2, 1) := by decide +kernel
theorem dX4_step_23 : decode cX4_step 23 = .ok (.getfield 54, 3) := by decide +kernel
theorem dX4_step_26 : decode cX4_step 26 = .ok (.getfield 111, 3) := by decide +kernel
theorem dX4_step_29 : decode cX4_step 29 = .ok (.iconst 2, 1) := by decide +kernel
theorem dX4_step_30 : decode cX4_step 30 = .ok (.if_icmp .ne 9, 3) := by decide +kernel
theorem dX4_step_33 : decode cX4_step 33 = .ok (.aload_n 0, 1) := by decide +kernel
theorem dX4_step_34 : decode cX4_step 34 = .ok (.aload_n 2, 1) := by decide +kernel
theorem dX4_step_35 : decode cX4_step 35 = .ok (.invokevirtual 114, 3) := by decide +kernel
theorem dX4_step_38 : decode cX4_step 38 = .ok (.ireturn, 1) := by decide +kernel
theorem dX4_step_39 : decode cX4_step 39 = .ok (.aload_n 2, 1) := by decide +kernel
theorem dX4_step_40 : decode cX4_step 40 = .ok (.getfield 54, 3) := by decide +kernel
theorem dX4_step_43 : decode cX4_step 43 = .ok (.getfield 111, 3) := by decide +kernel
theorem dX4_step_46 : decode cX4_step 46 = .ok (.iconst 1, 1) := by decide +kernel
theorem dX4_step_47 : decode cX4_step 47 = .ok (.if_icmp .ne 14, 3) := by decide +kernel
theorem dX4_step_50 : decode cX4_step 50 = .ok (.aload_n 0, 1) := by decide +kernel
theorem dX4_step_51 : decode cX4_step 51 = .ok (.invokevirtual 104, 3) := by decide +kernel
theorem dX4_step_54 : decode cX4_step 54 = .ok (.ifCond .eq 7, 3) := by decide +kernel
theorem dX4_step_57 : decode cX4_step 57 = .ok (.aload_n 2, 1) := by decide +kernel
theorem dX4_step_58 : decode cX4_step 58 = .ok (.invokevirtual 118, 3) := by decide +kernel
theorem dX4_step_61 : decode cX4_step 61 = .ok (.aload_n 2, 1) := by decide +kernel
theorem dX4_step_62 : decode cX4_step 62 = .ok (.getfield 54, 3) := by decide +kernel
theorem dX4_step_65 : decode cX4_step 65 = .ok (.getfield 111, 3) := by decide +kernel
theorem dX4_step_68 : decode cX4_step 68 = .ok (.ireturn, 1) := by decide +kernel
set_option maxRecDepth 20000 in
theorem ggX4_cut_X3_loseBlock : GoodIn wsX4_cut wsX3_loseBlock := goodIn_r _ [9, 10, 11, 30, 31, 32, 33, 34, 35, 36, 37] (by decide +kernel) (by decide +kernel)
set_option maxRecDepth 20000 in
theorem gX4_cut_X3_loseBlock : GoodIn wsX4_cut (wsV RX4 124 RX3 yX3_loseBlock wsX3_loseBlock) := goodIn_app (goodIn_of _ (by decide +kernel)) ggX4_cut_X3_loseBlock
theorem dX4_cut_0 : decode cX4_cut 0 = .ok (.iconst 0, 1) := by decide +kernel
theorem dX4_cut_1 : decode cX4_cut 1 = .ok (.istore_n 1, 1) := by decide +kernel
theorem dX4_cut_2 : decode cX4_cut 2 = .ok (.iconst 0, 1) := by decide +kernel
theorem dX4_cut_3 : decode cX4_cut 3 = .ok (.istore_n 2, 1) := by decide +kernel
theorem dX4_cut_4 : decode cX4_cut 4 = .ok (.iload_n 2, 1) := by decide +kernel
theorem dX4_cut_5 : decode cX4_cut 5 = .ok (.aload_n 0, 1) := by decide +kernel
theorem dX4_cut_6 : decode cX4_cut 6 = .ok (.getfield 33, 3) := by decide +kernel
theorem dX4_cut_9 : decode cX4_cut 9 = .ok (.if_icmp .ge 38, 3) := by decide +kernel
theorem dX4_cut_12 : decode cX4_cut 12 = .ok (.aload_n 0, 1) := by decide +kernel
theorem dX4_cut_13 : decode cX4_cut 13 = .ok (.getfield 11, 3) := by decide +kernel
theorem dX4_cut_16 : decode cX4_cut 16 = .ok (.iload_n 2, 1) := by decide +kernel
theorem dX4_cut_17 : decode cX4_cut 17 = .ok (.aaload, 1) := by decide +kernel
theorem dX4_cut_18 : decode cX4_cut 18 = .ok (.astore_n 3, 1) := by decide +kernel
theorem dX4_cut_19 : decode cX4_cut 19 = .ok (.aload_n 3, 1) := by decide +kernel
theorem dX4_cut_20 : decode cX4_cut 20 = .ok (.getfield 121, 3) := by decide +kernel
theorem dX4_cut_23 : decode cX4_cut 23 = .ok (.ifCond .ne 6, 3) := by decide +kernel
theorem dX4_cut_26 : decode cX4_cut 26 = .ok (.iinc 1 1, 3) := by decide +kernel
theorem dX4_cut_29 : decode cX4_cut 29 = .ok (.aload_n 3, 1) := by decide +kernel
theorem dX4_cut_30 : decode cX4_cut 30 = .ok (.iconst 1, 1) := by decide +kernel
theorem dX4_cut_31 : decode cX4_cut 31 = .ok (.putfield 121, 3) := by decide +kernel
theorem dX4_cut_34 : decode cX4_cut 34 = .ok (.aload_n 3, 1) := by decide +kernel
theorem dX4_cut_35 : decode cX4_cut 35 = .ok (.getfield 54, 3) := by decide +kernel
theorem dX4_cut_38 : decode cX4_cut 38 = .ok (.invokevirtual 124, 3) := by decide +kernel
theorem dX4_cut_41 : decode cX4_cut 41 = .ok (.iinc 2 1, 3) := by decide +kernel
theorem dX4_cut_44 : decode cX4_cut 44 = .ok (.goto (-40), 3) := by decide +kernel
theorem dX4_cut_47 : decode cX4_cut 47 = .ok (.iload_n 1, 1) := by decide +kernel
theorem dX4_cut_48 : decode cX4_cut 48 = .ok (.ireturn, 1) := by decide +kernel
set_option maxRecDepth 20000 in
theorem ggX4_boot_X4_find : GoodIn wsX4_boot wsX4_find := goodIn_r _ [10, 11, 12, 69, 70, 71, 72, 73, 74, 75, 76] (by decide +kernel) (by decide +kernel)
set_option maxRecDepth 20000 in
theorem gX4_boot_X4_find : GoodIn wsX4_boot (wsV RX4 43 RX4 yX4_find wsX4_find) := goodIn_app (goodIn_of _ (by decide +kernel)) ggX4_boot_X4_find
set_option maxRecDepth 20000 in
theorem ggX4_boot_X4_switchBanks : GoodIn wsX4_boot wsX4_switchBanks := goodIn_r _ [16, 2, 3, 17, 18, 19, 20, 21, 22, 23, 24, 25, 26, 27, 28, 29, 9, 30, 11, 12, 31, 32, 33, 34, 35, 36, 37, 38, 39, 40, 41, 42, 43, 48, 49, 50, 51, 52, 53, 54, 55, 56, 57, 58, 59, 60, 61, 62, 63, 64, 65, 66, 67, 68, 69, 70, 71, 72, 73, 74, 75, 76] (by decide +kernel) (by decide +kernel)
set_option maxRecDepth 20000 in
theorem gX4_boot_X4_switchBanks : GoodIn wsX4_boot (wsV RX4 127 RX4 yX4_switchBanks wsX4_switchBanks) := goodIn_app (goodIn_of _ (by decide +kernel)) ggX4_boot_X4_switchBanks
set_option maxRecDepth 20000 in
theorem ggX4_boot_X1_runningBank : GoodIn wsX4_boot wsX1_runningBank := goodIn_r _ [47, 24, 23, 48, 49, 50, 51, 52, 53, 54, 55, 56, 57] (by decide +kernel) (by decide +kernel)
set_option maxRecDepth 20000 in
theorem gX4_boot_X1_runningBank : GoodIn wsX4_boot (wsV RX4 131 RX1 yX1_runningBank wsX1_runningBank) := goodIn_app (goodIn_of _ (by decide +kernel)) ggX4_boot_X1_runningBank
theorem dX4_boot_0 : decode cX4_boot 0 = .ok (.aload_n 0, 1) := by decide +kernel
theorem dX4_boot_1 : decode cX4_boot 1 = .ok (.iload_n 1, 1) := by decide +kernel
theorem dX4_boot_2 : decode cX4_boot 2 = .ok (.invokevirtual 43, 3) := by decide +kernel
theorem dX4_boot_5 : decode cX4_boot 5 = .ok (.astore_n 2, 1) := by decide +kernel
theorem dX4_boot_6 : decode cX4_boot 6 = .ok (.aload_n 2, 1) := by decide +kernel
theorem dX4_boot_7 : decode cX4_boot 7 = .ok (.ifnonnull 5, 3) := by decide +kernel
theorem dX4_boot_10 : decode cX4_boot 10 = .ok (.iconst (-1), 1) := by decide +kernel
theorem dX4_boot_11 : decode cX4_boot 11 = .ok (.ireturn, 1) := by decide +kernel
theorem dX4_boot_12 : decode cX4_boot 12 = .ok (.aload_n 2, 1) := by decide +kernel
theorem dX4_boot_13 : decode cX4_boot 13 = .ok (.getfield 121, 3) := by decide +kernel
theorem dX4_boot_16 : decode cX4_boot 16 = .ok (.ifCond .eq 34, 3) := by decide +kernel
theorem dX4_boot_19 : decode cX4_boot 19 = .ok (.aload_n 2, 1) := by decide +kernel
theorem dX4_boot_20 : decode cX4_boot 20 = .ok (.iconst 0, 1) := by decide +kernel
theorem dX4_boot_21 : decode cX4_boot 21 = .ok (.putfield 121, 3) := by decide +kernel
theorem dX4_boot_24 : decode cX4_boot 24 = .ok (.aload_n 2, 1) := by decide +kernel
theorem dX4_boot_25 : decode cX4_boot 25 = .ok (.getfield 54, 3) := by decide +kernel
theorem dX4_boot_28 : decode cX4_boot 28 = .ok (.getfield 111, 3) := by decide +kernel
theorem dX4_boot_31 : decode cX4_boot 31 = .ok (.iconst 2, 1) := by decide +kernel
theorem dX4_boot_32 : decode cX4_boot 32 = .ok (.if_icmp .ne 18, 3) := by decide +kernel
theorem dX4_boot_35 : decode cX4_boot 35 = .ok (.aload_n 2, 1) := by decide +kernel
theorem dX4_boot_36 : decode cX4_boot 36 = .ok (.getfield 54, 3) := by decide +kernel
theorem dX4_boot_39 : decode cX4_boot 39 = .ok (.getfield 87, 3) := by decide +kernel
theorem dX4_boot_42 : decode cX4_boot 42 = .ok (.ifCond .eq 8, 3) := by decide +kernel
theorem dX4_boot_45 : decode cX4_boot 45 = .ok (.aload_n 0, 1) := by decide +kernel
theorem dX4_boot_46 : decode cX4_boot 46 = .ok (.aload_n 2, 1) := by decide +kernel
theorem dX4_boot_47 : decode cX4_boot 47 = .ok (.invokevirtual 127, 3) := by decide +kernel
theorem dX4_boot_50 : decode cX4_boot 50 = .ok (.aload_n 2, 1) := by decide +kernel
theorem dX4_boot_51 : decode cX4_boot 51 = .ok (.invokevirtual 131, 3) := by decide +kernel
theorem dX4_boot_54 : decode cX4_boot 54 = .ok (.getfield 135, 3) := by decide +kernel
theorem dX4_boot_57 : decode cX4_boot 57 = .ok (.ireturn, 1) := by decide +kernel
set_option maxRecDepth 20000 in
theorem ggX4_bank_X4_find : GoodIn wsX4_bank wsX4_find := goodIn_r _ [11, 12, 13, 33, 34, 35, 36, 37, 38, 39, 40] (by decide +kernel) (by decide +kernel)
set_option maxRecDepth 20000 in
theorem gX4_bank_X4_find : GoodIn wsX4_bank (wsV RX4 43 RX4 yX4_find wsX4_find) := goodIn_app (goodIn_of _ (by decide +kernel)) ggX4_bank_X4_find
theorem dX4_bank_0 : decode cX4_bank 0 = .ok (.aload_n 0, 1) := by decide +kernel
theorem dX4_bank_1 : decode cX4_bank 1 = .ok (.iload_n 1, 1) := by decide +kernel
theorem dX4_bank_2 : decode cX4_bank 2 = .ok (.invokevirtual 43, 3) := by decide +kernel
theorem dX4_bank_5 : decode cX4_bank 5 = .ok (.astore 5, 2) := by decide +kernel
theorem dX4_bank_7 : decode cX4_bank 7 = .ok (.aload 5, 2) := by decide +kernel
theorem dX4_bank_9 : decode cX4_bank 9 = .ok (.ifnonnull 5, 3) := by decide +kernel
theorem dX4_bank_12 : decode cX4_bank 12 = .ok (.iconst 0, 1) := by decide +kernel
theorem dX4_bank_13 : decode cX4_bank 13 = .ok (.ireturn, 1) := by decide +kernel
theorem dX4_bank_14 : decode cX4_bank 14 = .ok (.iload_n 2, 1) := by decide +kernel
theorem dX4_bank_15 : decode cX4_bank 15 = .ok (.ifCond .lt 22, 3) := by decide +kernel
theorem dX4_bank_18 : decode cX4_bank 18 = .ok (.iload_n 2, 1) := by decide +kernel
theorem dX4_bank_19 : decode cX4_bank 19 = .ok (.iconst 2, 1) := by decide +kernel
theorem dX4_bank_20 : decode cX4_bank 20 = .ok (.if_icmp .ge 17, 3) := by decide +kernel
theorem dX4_bank_23 : decode cX4_bank 23 = .ok (.lload_n 3, 1) := by decide +kernel
theorem dX4_bank_24 : decode cX4_bank 24 = .ok (.lconst 0, 1) := by decide +kernel
theorem dX4_bank_25 : decode cX4_bank 25 = .ok (.lcmp, 1) := by decide +kernel
theorem dX4_bank_26 : decode cX4_bank 26 = .ok (.ifCond .lt 11, 3) := by decide +kernel
theorem dX4_bank_29 : decode cX4_bank 29 = .ok (.lload_n 3, 1) := by decide +kernel
theorem dX4_bank_30 : decode cX4_bank 30 = .ok (.ldc2_w 140, 3) := by decide +kernel
theorem dX4_bank_33 : decode cX4_bank 33 = .ok (.lcmp, 1) := by decide +kernel
theorem dX4_bank_34 : decode cX4_bank 34 = .ok (.ifCond .lt 13, 3) := by decide +kernel
theorem dX4_bank_37 : decode cX4_bank 37 = .ok (.new 68, 3) := by decide +kernel
theorem dX4_bank_40 : decode cX4_bank 40 = .ok (.dup, 1) := by decide +kernel
theorem dX4_bank_41 : decode cX4_bank 41 = .ok (.ldc 142, 2) := by decide +kernel
theorem dX4_bank_43 : decode cX4_bank 43 = .ok (.invokespecial 72, 3) := by decide +kernel
theorem dX4_bank_46 : decode cX4_bank 46 = .ok (.athrow, 1) := by decide +kernel
theorem dX4_bank_47 : decode cX4_bank 47 = .ok (.aload 5, 2) := by decide +kernel
theorem dX4_bank_49 : decode cX4_bank 49 = .ok (.getfield 144, 3) := by decide +kernel
theorem dX4_bank_52 : decode cX4_bank 52 = .ok (.iload_n 2, 1) := by decide +kernel
theorem dX4_bank_53 : decode cX4_bank 53 = .ok (.aaload, 1) := by decide +kernel
theorem dX4_bank_54 : decode cX4_bank 54 = .ok (.getfield 148, 3) := by decide +kernel
theorem dX4_bank_57 : decode cX4_bank 57 = .ok (.lload_n 3, 1) := by decide +kernel
theorem dX4_bank_58 : decode cX4_bank 58 = .ok (.l2i, 1) := by decide +kernel
theorem dX4_bank_59 : decode cX4_bank 59 = .ok (.baload, 1) := by decide +kernel
theorem dX4_bank_60 : decode cX4_bank 60 = .ok (.ireturn, 1) := by decide +kernel
set_option maxRecDepth 20000 in
theorem ggX4_joint_X4_hasLastSet : GoodIn wsX4_joint wsX4_hasLastSet := goodIn_r _ [9, 1, 2, 10, 11, 12, 13, 14, 15, 22, 23, 24, 25, 26, 27, 28, 29, 33, 34, 35, 36, 37, 38, 39, 40, 41, 42] (by decide +kernel) (by decide +kernel)
set_option maxRecDepth 20000 in
theorem gX4_joint_X4_hasLastSet : GoodIn wsX4_joint (wsV RX4 149 RX4 yX4_hasLastSet wsX4_hasLastSet) := goodIn_app (goodIn_of _ (by decide +kernel)) ggX4_joint_X4_hasLastSet
set_option maxRecDepth 20000 in
theorem ggX4_joint_X1_isOfLastSet : GoodIn wsX4_joint wsX1_isOfLastSet := goodIn_r _ [14, 15, 33, 34, 35, 36, 37, 38, 39, 40, 41, 42] (by decide +kernel) (by decide +kernel)
set_option maxRecDepth 20000 in
theorem gX4_joint_X1_isOfLastSet : GoodIn wsX4_joint (wsV RX4 152 RX1 yX1_isOfLastSet wsX1_isOfLastSet) := goodIn_app (goodIn_of _ (by decide +kernel)) ggX4_joint_X1_isOfLastSet
set_option maxRecDepth 20000 in
theorem ggX4_joint_X1_runningBank : GoodIn wsX4_joint wsX1_runningBank := goodIn_r _ [19, 20, 21, 33, 34, 35, 36, 37, 38, 39, 40, 41, 42] (by decide +kernel) (by decide +kernel)
set_option maxRecDepth 20000 in
theorem gX4_joint_X1_runningBank : GoodIn wsX4_joint (wsV RX4 131 RX1 yX1_runningBank wsX1_runningBank) := goodIn_app (goodIn_of _ (by decide +kernel)) ggX4_joint_X1_runningBank
theorem dX4_joint_0 : decode cX4_joint 0 = .ok (.aload_n 0, 1) := by decide +kernel
theorem dX4_joint_1 : decode cX4_joint 1 = .ok (.invokevirtual 149, 3) := by decide +kernel
theorem dX4_joint_4 : decode cX4_joint 4 = .ok (.ifCond .ne 5, 3) := by decide +kernel
theorem dX4_joint_7 : decode cX4_joint 7 = .ok (.iconst 0, 1) := by decide +kernel
theorem dX4_joint_8 : decode cX4_joint 8 = .ok (.ireturn, 1) := by decide +kernel
theorem dX4_joint_9 : decode cX4_joint 9 = .ok (.iconst 0, 1) := by decide +kernel
theorem dX4_joint_10 : decode cX4_joint 10 = .ok (.istore_n 1, 1) := by decide +kernel
theorem dX4_joint_11 : decode cX4_joint 11 = .ok (.iload_n 1, 1) := by decide +kernel
theorem dX4_joint_12 : decode cX4_joint 12 = .ok (.aload_n 0, 1) := by decide +kernel
theorem dX4_joint_13 : decode cX4_joint 13 = .ok (.getfield 33, 3) := by decide +kernel
theorem dX4_joint_16 : decode cX4_joint 16 = .ok (.if_icmp .ge 39, 3) := by decide +kernel
theorem dX4_joint_19 : decode cX4_joint 19 = .ok (.aload_n 0, 1) := by decide +kernel
theorem dX4_joint_20 : decode cX4_joint 20 = .ok (.getfield 11, 3) := by decide +kernel
theorem dX4_joint_23 : decode cX4_joint 23 = .ok (.iload_n 1, 1) := by decide +kernel
theorem dX4_joint_24 : decode cX4_joint 24 = .ok (.aaload, 1) := by decide +kernel
theorem dX4_joint_25 : decode cX4_joint 25 = .ok (.astore_n 2, 1) := by decide +kernel
theorem dX4_joint_26 : decode cX4_joint 26 = .ok (.aload_n 2, 1) := by decide +kernel
theorem dX4_joint_27 : decode cX4_joint 27 = .ok (.invokevirtual 152, 3) := by decide +kernel
theorem dX4_joint_30 : decode cX4_joint 30 = .ok (.ifCond .eq 19, 3) := by decide +kernel
theorem dX4_joint_33 : decode cX4_joint 33 = .ok (.aload_n 2, 1) := by decide +kernel
theorem dX4_joint_34 : decode cX4_joint 34 = .ok (.invokevirtual 131, 3) := by decide +kernel
theorem dX4_joint_37 : decode cX4_joint 37 = .ok (.getfield 155, 3) := by decide +kernel
theorem dX4_joint_40 : decode cX4_joint 40 = .ok (.aload_n 2, 1) := by decide +kernel
theorem dX4_joint_41 : decode cX4_joint 41 = .ok (.getfield 158, 3) := by decide +kernel
theorem dX4_joint_44 : decode cX4_joint 44 = .ok (.if_icmp .eq 5, 3) := by decide +kernel
theorem dX4_joint_47 : decode cX4_joint 47 = .ok (.iconst 0, 1) := by decide +kernel
theorem dX4_joint_48 : decode cX4_joint 48 = .ok (.ireturn, 1) := by decide +kernel
theorem dX4_joint_49 : decode cX4_joint 49 = .ok (.iinc 1 1, 3) := by decide +kernel
theorem dX4_joint_52 : decode cX4_joint 52 = .ok (.goto (-41), 3) := by decide +kernel
theorem dX4_joint_55 : decode cX4_joint 55 = .ok (.iconst 1, 1) := by decide +kernel
theorem dX4_joint_56 : decode cX4_joint 56 = .ok (.ireturn, 1) := by decide +kernel
set_option maxRecDepth 20000 in
theorem ggX4_rollback_X4_hasLastSet : GoodIn wsX4_rollback wsX4_hasLastSet := goodIn_r _ [8, 1, 2, 9, 10, 11, 12, 13, 14, 35, 36, 37, 38, 39, 40, 41, 42, 43, 44, 45, 46, 47, 48, 49, 50, 51, 52] (by decide +kernel) (by decide +kernel)
set_option maxRecDepth 20000 in
theorem gX4_rollback_X4_hasLastSet : GoodIn wsX4_rollback (wsV RX4 149 RX4 yX4_hasLastSet wsX4_hasLastSet) := goodIn_app (goodIn_of _ (by decide +kernel)) ggX4_rollback_X4_hasLastSet
set_option maxRecDepth 20000 in
theorem ggX4_rollback_X4_lastSetMayGoBack : GoodIn wsX4_rollback wsX4_lastSetMayGoBack := goodIn_r _ [18, 1, 2, 19, 20, 9, 10, 11, 12, 13, 14, 21, 22, 23, 24, 25, 26, 35, 36, 37, 38, 39, 40, 41, 42, 43, 44, 45, 46, 47, 48, 49, 50, 51, 52, 53, 54, 55, 56, 57, 58, 59, 60] (by decide +kernel) (by decide +kernel)
set_option maxRecDepth 20000 in
theorem gX4_rollback_X4_lastSetMayGoBack : GoodIn wsX4_rollback (wsV RX4 161 RX4 yX4_lastSetMayGoBack wsX4_lastSetMayGoBack) := goodIn_app (goodIn_of _ (by decide +kernel)) ggX4_rollback_X4_lastSetMayGoBack
set_option maxRecDepth 20000 in
theorem ggX4_rollback_X1_isOfLastSet : GoodIn wsX4_rollback wsX1_isOfLastSet := goodIn_r _ [13, 14, 43, 44, 45, 46, 47, 48, 49, 50, 51, 52] (by decide +kernel) (by decide +kernel)
set_option maxRecDepth 20000 in
theorem gX4_rollback_X1_isOfLastSet : GoodIn wsX4_rollback (wsV RX4 152 RX1 yX1_isOfLastSet wsX1_isOfLastSet) := goodIn_app (goodIn_of _ (by decide +kernel)) ggX4_rollback_X1_isOfLastSet
set_option maxRecDepth 20000 in
theorem ggX4_rollback_X1_runOtherBank : GoodIn wsX4_rollback wsX1_runOtherBank := goodIn_r _ [30, 31, 32, 33, 34, 43, 44, 45, 46, 47, 48, 49, 50, 51, 52, 61, 62, 63] (by decide +kernel) (by decide +kernel)
set_option maxRecDepth 20000 in
theorem gX4_rollback_X1_runOtherBank : GoodIn wsX4_rollback (wsV RX4 164 RX1 yX1_runOtherBank wsX1_runOtherBank) := goodIn_app (goodIn_of _ (by decide +kernel)) ggX4_rollback_X1_runOtherBank
end
section
theorem dX4_rollback_0 : decode cX4_rollback 0 = .ok (.aload_n 0, 1) := by decide +kernel
theorem dX4_rollback_1 : decode cX4_rollback 1 = .ok (.invokevirtual 149, 3) := by decide +kernel
theorem dX4_rollback_4 : decode cX4_rollback 4 = .ok (.ifCond .eq 10, 3) := by decide +kernel
theorem dX4_rollback_7 : decode cX4_rollback 7 = .ok (.aload_n 0, 1) := by decide +kernel
theorem dX4_rollback_8 : decode cX4_rollback 8 = .ok (.invokevirtual 161, 3) := by decide +kernel
theorem dX4_rollback_11 : decode cX4_rollback 11 = .ok (.ifCond .ne 5, 3) := by decide +kernel
theorem dX4_rollback_14 : decode cX4_rollback 14 = .ok (.iconst 0, 1) := by decide +kernel
theorem dX4_rollback_15 : decode cX4_rollback 15 = .ok (.ireturn, 1) := by decide +kernel
theorem dX4_rollback_16 : decode cX4_rollback 16 = .ok (.iconst 0, 1) := by decide +kernel
theorem dX4_rollback_17 : decode cX4_rollback 17 = .ok (.istore_n 1, 1) := by decide +kernel
theorem dX4_rollback_18 : decode cX4_rollback 18 = .ok (.iload_n 1, 1) := by decide +kernel
theorem dX4_rollback_19 : decode cX4_rollback 19 = .ok (.aload_n 0, 1) := by decide +kernel
theorem dX4_rollback_20 : decode cX4_rollback 20 = .ok (.getfield 33, 3) := by decide +kernel
theorem dX4_rollback_23 : decode cX4_rollback 23 = .ok (.if_icmp .ge 32, 3) := by decide +kernel
theorem dX4_rollback_26 : decode cX4_rollback 26 = .ok (.aload_n 0, 1) := by decide +kernel
theorem dX4_rollback_27 : decode cX4_rollback 27 = .ok (.getfield 11, 3) := by decide +kernel
theorem dX4_rollback_30 : decode cX4_rollback 30 = .ok (.iload_n 1, 1) := by decide +kernel
theorem dX4_rollback_31 : decode cX4_rollback 31 = .ok (.aaload, 1) := by decide +kernel
theorem dX4_rollback_32 : decode cX4_rollback 32 = .ok (.astore_n 2, 1) := by decide +kernel
theorem dX4_rollback_33 : decode cX4_rollback 33 = .ok (.aload_n 2, 1) := by decide +kernel
theorem dX4_rollback_34 : decode cX4_rollback 34 = .ok (.invokevirtual 152, 3) := by decide +kernel
theorem dX4_rollback_37 : decode cX4_rollback 37 = .ok (.ifCond .eq 12, 3) := by decide +kernel
theorem dX4_rollback_40 : decode cX4_rollback 40 = .ok (.aload_n 2, 1) := by decide +kernel
theorem dX4_rollback_41 : decode cX4_rollback 41 = .ok (.invokevirtual 164, 3) := by decide +kernel
theorem dX4_rollback_44 : decode cX4_rollback 44 = .ok (.aload_n 2, 1) := by decide +kernel
theorem dX4_rollback_45 : decode cX4_rollback 45 = .ok (.iconst 0, 1) := by decide +kernel
theorem dX4_rollback_46 : decode cX4_rollback 46 = .ok (.putfield 158, 3) := by decide +kernel
theorem dX4_rollback_49 : decode cX4_rollback 49 = .ok (.iinc 1 1, 3) := by decide +kernel
theorem dX4_rollback_52 : decode cX4_rollback 52 = .ok (.goto (-34), 3) := by decide +kernel
theorem dX4_rollback_55 : decode cX4_rollback 55 = .ok (.iconst 1, 1) := by decide +kernel
theorem dX4_rollback_56 : decode cX4_rollback 56 = .ok (.ireturn, 1) := by decide +kernel
set_option maxRecDepth 20000 in
theorem ggX4_silent_X4_find : GoodIn wsX4_silent wsX4_find := goodIn_r _ [6, 7, 8, 19, 20, 21, 22, 23, 24, 25, 26] (by decide +kernel) (by decide +kernel)
set_option maxRecDepth 20000 in
theorem gX4_silent_X4_find : GoodIn wsX4_silent (wsV RX4 43 RX4 yX4_find wsX4_find) := goodIn_app (goodIn_of _ (by decide +kernel)) ggX4_silent_X4_find
theorem dX4_silent_0 : decode cX4_silent 0 = .ok (.aload_n 0, 1) := by decide +kernel
theorem dX4_silent_1 : decode cX4_silent 1 = .ok (.iload_n 1, 1) := by decide +kernel
theorem dX4_silent_2 : decode cX4_silent 2 = .ok (.invokevirtual 43, 3) := by decide +kernel
theorem dX4_silent_5 : decode cX4_silent 5 = .ok (.astore_n 3, 1) := by decide +kernel
theorem dX4_silent_6 : decode cX4_silent 6 = .ok (.aload_n 3, 1) := by decide +kernel
theorem dX4_silent_7 : decode cX4_silent 7 = .ok (.ifnonnull 5, 3) := by decide +kernel
theorem dX4_silent_10 : decode cX4_silent 10 = .ok (.iconst (-1), 1) := by decide +kernel
theorem dX4_silent_11 : decode cX4_silent 11 = .ok (.ireturn, 1) := by decide +kernel
theorem dX4_silent_12 : decode cX4_silent 12 = .ok (.aload_n 3, 1) := by decide +kernel
theorem dX4_silent_13 : decode cX4_silent 13 = .ok (.getfield 167, 3) := by decide +kernel
theorem dX4_silent_16 : decode cX4_silent 16 = .ok (.iload_n 2, 1) := by decide +kernel
theorem dX4_silent_17 : decode cX4_silent 17 = .ok (.if_icmp .eq 7, 3) := by decide +kernel
theorem dX4_silent_20 : decode cX4_silent 20 = .ok (.iconst 1, 1) := by decide +kernel
theorem dX4_silent_21 : decode cX4_silent 21 = .ok (.goto 4, 3) := by decide +kernel
theorem dX4_silent_24 : decode cX4_silent 24 = .ok (.iconst 0, 1) := by decide +kernel
theorem dX4_silent_25 : decode cX4_silent 25 = .ok (.istore 4, 2) := by decide +kernel
theorem dX4_silent_27 : decode cX4_silent 27 = .ok (.aload_n 3, 1) := by decide +kernel
theorem dX4_silent_28 : decode cX4_silent 28 = .ok (.iload_n 2, 1) := by decide +kernel
theorem dX4_silent_29 : decode cX4_silent 29 = .ok (.putfield 167, 3) := by decide +kernel
theorem dX4_silent_32 : decode cX4_silent 32 = .ok (.iload 4, 2) := by decide +kernel
theorem dX4_silent_34 : decode cX4_silent 34 = .ok (.ifCond .eq 7, 3) := by decide +kernel
theorem dX4_silent_37 : decode cX4_silent 37 = .ok (.iconst 1, 1) := by decide +kernel
theorem dX4_silent_38 : decode cX4_silent 38 = .ok (.goto 4, 3) := by decide +kernel
theorem dX4_silent_41 : decode cX4_silent 41 = .ok (.iconst 0, 1) := by decide +kernel
theorem dX4_silent_42 : decode cX4_silent 42 = .ok (.ireturn, 1) := by decide +kernel
set_option maxRecDepth 20000 in
theorem ggX4_counter_X4_find : GoodIn wsX4_counter wsX4_find := goodIn_r _ [6, 7, 8, 19, 20, 21, 22, 23, 24, 25, 26] (by decide +kernel) (by decide +kernel)
set_option maxRecDepth 20000 in
theorem gX4_counter_X4_find : GoodIn wsX4_counter (wsV RX4 43 RX4 yX4_find wsX4_find) := goodIn_app (goodIn_of _ (by decide +kernel)) ggX4_counter_X4_find
theorem dX4_counter_0 : decode cX4_counter 0 = .ok (.aload_n 0, 1) := by decide +kernel
theorem dX4_counter_1 : decode cX4_counter 1 = .ok (.iload_n 1, 1) := by decide +kernel
theorem dX4_counter_2 : decode cX4_counter 2 = .ok (.invokevirtual 43, 3) := by decide +kernel
theorem dX4_counter_5 : decode cX4_counter 5 = .ok (.astore_n 2, 1) := by decide +kernel
theorem dX4_counter_6 : decode cX4_counter 6 = .ok (.aload_n 2, 1) := by decide +kernel
theorem dX4_counter_7 : decode cX4_counter 7 = .ok (.ifnonnull 5, 3) := by decide +kernel
theorem dX4_counter_10 : decode cX4_counter 10 = .ok (.iconst (-1), 1) := by decide +kernel
theorem dX4_counter_11 : decode cX4_counter 11 = .ok (.ireturn, 1) := by decide +kernel
theorem dX4_counter_12 : decode cX4_counter 12 = .ok (.aload_n 2, 1) := by decide +kernel
theorem dX4_counter_13 : decode cX4_counter 13 = .ok (.getfield 170, 3) := by decide +kernel
theorem dX4_counter_16 : decode cX4_counter 16 = .ok (.ireturn, 1) := by decide +kernel
theorem dX4_find_0 : decode cX4_find 0 = .ok (.iload_n 1, 1) := by decide +kernel
theorem dX4_find_1 : decode cX4_find 1 = .ok (.iconst 1, 1) := by decide +kernel
theorem dX4_find_2 : decode cX4_find 2 = .ok (.if_icmp .lt 11, 3) := by decide +kernel
theorem dX4_find_5 : decode cX4_find 5 = .ok (.iload_n 1, 1) := by decide +kernel
theorem dX4_find_6 : decode cX4_find 6 = .ok (.aload_n 0, 1) := by decide +kernel
theorem dX4_find_7 : decode cX4_find 7 = .ok (.getfield 33, 3) := by decide +kernel
theorem dX4_find_10 : decode cX4_find 10 = .ok (.if_icmp .le 5, 3) := by decide +kernel
theorem dX4_find_13 : decode cX4_find 13 = .ok (.aconst_null, 1) := by decide +kernel
theorem dX4_find_14 : decode cX4_find 14 = .ok (.areturn, 1) := by decide +kernel
theorem dX4_find_15 : decode cX4_find 15 = .ok (.aload_n 0, 1) := by decide +kernel
theorem dX4_find_16 : decode cX4_find 16 = .ok (.getfield 11, 3) := by decide +kernel
theorem dX4_find_19 : decode cX4_find 19 = .ok (.iload_n 1, 1) := by decide +kernel
theorem dX4_find_20 : decode cX4_find 20 = .ok (.iconst 1, 1) := by decide +kernel
theorem dX4_find_21 : decode cX4_find 21 = .ok (.isub, 1) := by decide +kernel
theorem dX4_find_22 : decode cX4_find 22 = .ok (.aaload, 1) := by decide +kernel
theorem dX4_find_23 : decode cX4_find 23 = .ok (.areturn, 1) := by decide +kernel
theorem dX4_isPackage_0 : decode cX4_isPackage 0 = .ok (.iload_n 1, 1) := by decide +kernel
theorem dX4_isPackage_1 : decode cX4_isPackage 1 = .ok (.iconst 1, 1) := by decide +kernel
theorem dX4_isPackage_2 : decode cX4_isPackage 2 = .ok (.if_icmp .lt 15, 3) := by decide +kernel
theorem dX4_isPackage_5 : decode cX4_isPackage 5 = .ok (.iload_n 1, 1) := by decide +kernel
theorem dX4_isPackage_6 : decode cX4_isPackage 6 = .ok (.aload_n 0, 1) := by decide +kernel
theorem dX4_isPackage_7 : decode cX4_isPackage 7 = .ok (.getfield 51, 3) := by decide +kernel
theorem dX4_isPackage_10 : decode cX4_isPackage 10 = .ok (.if_icmp .gt 7, 3) := by decide +kernel
theorem dX4_isPackage_13 : decode cX4_isPackage 13 = .ok (.iconst 1, 1) := by decide +kernel
theorem dX4_isPackage_14 : decode cX4_isPackage 14 = .ok (.goto 4, 3) := by decide +kernel
theorem dX4_isPackage_17 : decode cX4_isPackage 17 = .ok (.iconst 0, 1) := by decide +kernel
theorem dX4_isPackage_18 : decode cX4_isPackage 18 = .ok (.ireturn, 1) := by decide +kernel
theorem dX4_findOpen_0 : decode cX4_findOpen 0 = .ok (.iconst 0, 1) := by decide +kernel
theorem dX4_findOpen_1 : decode cX4_findOpen 1 = .ok (.istore_n 2, 1) := by decide +kernel
theorem dX4_findOpen_2 : decode cX4_findOpen 2 = .ok (.iload_n 2, 1) := by decide +kernel
theorem dX4_findOpen_3 : decode cX4_findOpen 3 = .ok (.aload_n 0, 1) := by decide +kernel
theorem dX4_findOpen_4 : decode cX4_findOpen 4 = .ok (.getfield 33, 3) := by decide +kernel
theorem dX4_findOpen_7 : decode cX4_findOpen 7 = .ok (.if_icmp .ge 36, 3) := by decide +kernel
theorem dX4_findOpen_10 : decode cX4_findOpen 10 = .ok (.aload_n 0, 1) := by decide +kernel
theorem dX4_findOpen_11 : decode cX4_findOpen 11 = .ok (.getfield 11, 3) := by decide +kernel
theorem dX4_findOpen_14 : decode cX4_findOpen 14 = .ok (.iload_n 2, 1) := by decide +kernel
theorem dX4_findOpen_15 : decode cX4_findOpen 15 = .ok (.aaload, 1) := by decide +kernel
theorem dX4_findOpen_16 : decode cX4_findOpen 16 = .ok (.getfield 54, 3) := by decide +kernel
theorem dX4_findOpen_19 : decode cX4_findOpen 19 = .ok (.astore_n 3, 1) := by decide +kernel
theorem dX4_findOpen_20 : decode cX4_findOpen 20 = .ok (.aload_n 3, 1) := by decide +kernel
theorem dX4_findOpen_21 : decode cX4_findOpen 21 = .ok (.getfield 111, 3) := by decide +kernel
theorem dX4_findOpen_24 : decode cX4_findOpen 24 = .ok (.ifCond .eq 13, 3) := by decide +kernel
theorem dX4_findOpen_27 : decode cX4_findOpen 27 = .ok (.aload_n 3, 1) := by decide +kernel
theorem dX4_findOpen_28 : decode cX4_findOpen 28 = .ok (.getfield 173, 3) := by decide +kernel
theorem dX4_findOpen_31 : decode cX4_findOpen 31 = .ok (.iload_n 1, 1) := by decide +kernel
theorem dX4_findOpen_32 : decode cX4_findOpen 32 = .ok (.if_icmp .ne 5, 3) := by decide +kernel
theorem dX4_findOpen_35 : decode cX4_findOpen 35 = .ok (.aload_n 3, 1) := by decide +kernel
theorem dX4_findOpen_36 : decode cX4_findOpen 36 = .ok (.areturn, 1) := by decide +kernel
theorem dX4_findOpen_37 : decode cX4_findOpen 37 = .ok (.iinc 2 1, 3) := by decide +kernel
theorem dX4_findOpen_40 : decode cX4_findOpen 40 = .ok (.goto (-38), 3) := by decide +kernel
theorem dX4_findOpen_43 : decode cX4_findOpen 43 = .ok (.aconst_null, 1) := by decide +kernel
theorem dX4_findOpen_44 : decode cX4_findOpen 44 = .ok (.areturn, 1) := by decide +kernel
theorem dX4_bothHold_0 : decode cX4_bothHold 0 = .ok (.aload_n 0, 1) := by decide +kernel
theorem dX4_bothHold_1 : decode cX4_bothHold 1 = .ok (.getfield 19, 3) := by decide +kernel
theorem dX4_bothHold_4 : decode cX4_bothHold 4 = .ok (.ifCond .eq 14, 3) := by decide +kernel
theorem dX4_bothHold_7 : decode cX4_bothHold 7 = .ok (.aload_n 0, 1) := by decide +kernel
theorem dX4_bothHold_8 : decode cX4_bothHold 8 = .ok (.getfield 23, 3) := by decide +kernel
theorem dX4_bothHold_11 : decode cX4_bothHold 11 = .ok (.ifCond .eq 7, 3) := by decide +kernel
theorem dX4_bothHold_14 : decode cX4_bothHold 14 = .ok (.iconst 1, 1) := by decide +kernel
theorem dX4_bothHold_15 : decode cX4_bothHold 15 = .ok (.goto 4, 3) := by decide +kernel
theorem dX4_bothHold_18 : decode cX4_bothHold 18 = .ok (.iconst 0, 1) := by decide +kernel
theorem dX4_bothHold_19 : decode cX4_bothHold 19 = .ok (.ireturn, 1) := by decide +kernel
theorem dX4_refusalOf_0 : decode cX4_refusalOf 0 = .ok (.iload_n 2, 1) := by decide +kernel
theorem dX4_refusalOf_1 : decode cX4_refusalOf 1 = .ok (.iconst 1, 1) := by decide +kernel
theorem dX4_refusalOf_2 : decode cX4_refusalOf 2 = .ok (.if_icmp .lt 17, 3) := by decide +kernel
theorem dX4_refusalOf_5 : decode cX4_refusalOf 5 = .ok (.iload_n 2, 1) := by decide +kernel
theorem dX4_refusalOf_6 : decode cX4_refusalOf 6 = .ok (.sipush 1000, 3) := by decide +kernel
theorem dX4_refusalOf_9 : decode cX4_refusalOf 9 = .ok (.if_icmp .gt 10, 3) := by decide +kernel
theorem dX4_refusalOf_12 : decode cX4_refusalOf 12 = .ok (.aload_n 0, 1) := by decide +kernel
theorem dX4_refusalOf_13 : decode cX4_refusalOf 13 = .ok (.getfield 40, 3) := by decide +kernel
theorem dX4_refusalOf_16 : decode cX4_refusalOf 16 = .ok (.ifCond .ne 6, 3) := by decide +kernel
theorem dX4_refusalOf_19 : decode cX4_refusalOf 19 = .ok (.bipush (-2), 2) := by decide +kernel
theorem dX4_refusalOf_21 : decode cX4_refusalOf 21 = .ok (.ireturn, 1) := by decide +kernel
theorem dX4_refusalOf_22 : decode cX4_refusalOf 22 = .ok (.aload_n 1, 1) := by decide +kernel
theorem dX4_refusalOf_23 : decode cX4_refusalOf 23 = .ok (.getfield 54, 3) := by decide +kernel
theorem dX4_refusalOf_26 : decode cX4_refusalOf 26 = .ok (.getfield 111, 3) := by decide +kernel
theorem dX4_refusalOf_29 : decode cX4_refusalOf 29 = .ok (.iconst 2, 1) := by decide +kernel
theorem dX4_refusalOf_30 : decode cX4_refusalOf 30 = .ok (.if_icmp .eq 14, 3) := by decide +kernel
theorem dX4_refusalOf_33 : decode cX4_refusalOf 33 = .ok (.aload_n 1, 1) := by decide +kernel
theorem dX4_refusalOf_34 : decode cX4_refusalOf 34 = .ok (.getfield 54, 3) := by decide +kernel
theorem dX4_refusalOf_37 : decode cX4_refusalOf 37 = .ok (.getfield 111, 3) := by decide +kernel
theorem dX4_refusalOf_40 : decode cX4_refusalOf 40 = .ok (.iconst 3, 1) := by decide +kernel
theorem dX4_refusalOf_41 : decode cX4_refusalOf 41 = .ok (.if_icmp .ne 6, 3) := by decide +kernel
theorem dX4_refusalOf_44 : decode cX4_refusalOf 44 = .ok (.bipush (-3), 2) := by decide +kernel
theorem dX4_refusalOf_46 : decode cX4_refusalOf 46 = .ok (.ireturn, 1) := by decide +kernel
theorem dX4_refusalOf_47 : decode cX4_refusalOf 47 = .ok (.aload_n 0, 1) := by decide +kernel
theorem dX4_refusalOf_48 : decode cX4_refusalOf 48 = .ok (.getfield 51, 3) := by decide +kernel
theorem dX4_refusalOf_51 : decode cX4_refusalOf 51 = .ok (.bipush 60, 2) := by decide +kernel
theorem dX4_refusalOf_53 : decode cX4_refusalOf 53 = .ok (.if_icmp .lt 6, 3) := by decide +kernel
theorem dX4_refusalOf_56 : decode cX4_refusalOf 56 = .ok (.bipush (-4), 2) := by decide +kernel
theorem dX4_refusalOf_58 : decode cX4_refusalOf 58 = .ok (.ireturn, 1) := by decide +kernel
theorem dX4_refusalOf_59 : decode cX4_refusalOf 59 = .ok (.iload_n 3, 1) := by decide +kernel
theorem dX4_refusalOf_60 : decode cX4_refusalOf 60 = .ok (.ifCond .ne 6, 3) := by decide +kernel
theorem dX4_refusalOf_63 : decode cX4_refusalOf 63 = .ok (.bipush (-5), 2) := by decide +kernel
theorem dX4_refusalOf_65 : decode cX4_refusalOf 65 = .ok (.ireturn, 1) := by decide +kernel
theorem dX4_refusalOf_66 : decode cX4_refusalOf 66 = .ok (.aload_n 0, 1) := by decide +kernel
theorem dX4_refusalOf_67 : decode cX4_refusalOf 67 = .ok (.getfield 15, 3) := by decide +kernel
theorem dX4_refusalOf_70 : decode cX4_refusalOf 70 = .ok (.iconst 0, 1) := by decide +kernel
theorem dX4_refusalOf_71 : decode cX4_refusalOf 71 = .ok (.baload, 1) := by decide +kernel
theorem dX4_refusalOf_72 : decode cX4_refusalOf 72 = .ok (.aload_n 1, 1) := by decide +kernel
theorem dX4_refusalOf_73 : decode cX4_refusalOf 73 = .ok (.getfield 176, 3) := by decide +kernel
theorem dX4_refusalOf_76 : decode cX4_refusalOf 76 = .ok (.if_icmp .eq 6, 3) := by decide +kernel
theorem dX4_refusalOf_79 : decode cX4_refusalOf 79 = .ok (.bipush (-6), 2) := by decide +kernel
theorem dX4_refusalOf_81 : decode cX4_refusalOf 81 = .ok (.ireturn, 1) := by decide +kernel
theorem dX4_refusalOf_82 : decode cX4_refusalOf 82 = .ok (.iload_n 2, 1) := by decide +kernel
theorem dX4_refusalOf_83 : decode cX4_refusalOf 83 = .ok (.aload_n 1, 1) := by decide +kernel
theorem dX4_refusalOf_84 : decode cX4_refusalOf 84 = .ok (.getfield 170, 3) := by decide +kernel
theorem dX4_refusalOf_87 : decode cX4_refusalOf 87 = .ok (.if_icmp .gt 8, 3) := by decide +kernel
theorem dX4_refusalOf_90 : decode cX4_refusalOf 90 = .ok (.bipush (-7), 2) := by decide +kernel
theorem dX4_refusalOf_92 : decode cX4_refusalOf 92 = .ok (.goto 4, 3) := by decide +kernel
theorem dX4_refusalOf_95 : decode cX4_refusalOf 95 = .ok (.iconst 0, 1) := by decide +kernel
theorem dX4_refusalOf_96 : decode cX4_refusalOf 96 = .ok (.ireturn, 1) := by decide +kernel
set_option maxRecDepth 20000 in
theorem ggX4_joinSets_X3_isOf : GoodIn wsX4_joinSets wsX3_isOf := goodIn_r _ [9, 10, 11, 30, 31, 32, 33, 34, 35, 36, 37] (by decide +kernel) (by decide +kernel)
set_option maxRecDepth 20000 in
theorem gX4_joinSets_X3_isOf : GoodIn wsX4_joinSets (wsV RX4 179 RX3 yX3_isOf wsX3_isOf) := goodIn_app (goodIn_of _ (by decide +kernel)) ggX4_joinSets_X3_isOf
theorem dX4_joinSets_0 : decode cX4_joinSets 0 = .ok (.iconst 0, 1) := by decide +kernel
theorem dX4_joinSets_1 : decode cX4_joinSets 1 = .ok (.istore_n 3, 1) := by decide +kernel
theorem dX4_joinSets_2 : decode cX4_joinSets 2 = .ok (.iconst 0, 1) := by decide +kernel
theorem dX4_joinSets_3 : decode cX4_joinSets 3 = .ok (.istore 4, 2) := by decide +kernel
theorem dX4_joinSets_5 : decode cX4_joinSets 5 = .ok (.iload 4, 2) := by decide +kernel
theorem dX4_joinSets_7 : decode cX4_joinSets 7 = .ok (.aload_n 0, 1) := by decide +kernel
theorem dX4_joinSets_8 : decode cX4_joinSets 8 = .ok (.getfield 33, 3) := by decide +kernel
theorem dX4_joinSets_11 : decode cX4_joinSets 11 = .ok (.if_icmp .ge 48, 3) := by decide +kernel
theorem dX4_joinSets_14 : decode cX4_joinSets 14 = .ok (.aload_n 0, 1) := by decide +kernel
theorem dX4_joinSets_15 : decode cX4_joinSets 15 = .ok (.getfield 11, 3) := by decide +kernel
theorem dX4_joinSets_18 : decode cX4_joinSets 18 = .ok (.iload 4, 2) := by decide +kernel
theorem dX4_joinSets_20 : decode cX4_joinSets 20 = .ok (.aaload, 1) := by decide +kernel
theorem dX4_joinSets_21 : decode cX4_joinSets 21 = .ok (.getfield 54, 3) := by decide +kernel
theorem dX4_joinSets_24 : decode cX4_joinSets 24 = .ok (.astore 5, 2) := by decide +kernel
theorem dX4_joinSets_26 : decode cX4_joinSets 26 = .ok (.aload 5, 2) := by decide +kernel
theorem dX4_joinSets_28 : decode cX4_joinSets 28 = .ok (.iload_n 1, 1) := by decide +kernel
theorem dX4_joinSets_29 : decode cX4_joinSets 29 = .ok (.invokevirtual 179, 3) := by decide +kernel
theorem dX4_joinSets_32 : decode cX4_joinSets 32 = .ok (.ifCond .ne 12, 3) := by decide +kernel
theorem dX4_joinSets_35 : decode cX4_joinSets 35 = .ok (.aload 5, 2) := by decide +kernel
theorem dX4_joinSets_37 : decode cX4_joinSets 37 = .ok (.iload_n 2, 1) := by decide +kernel
theorem dX4_joinSets_38 : decode cX4_joinSets 38 = .ok (.invokevirtual 179, 3) := by decide +kernel
theorem dX4_joinSets_41 : decode cX4_joinSets 41 = .ok (.ifCond .eq 12, 3) := by decide +kernel
theorem dX4_joinSets_44 : decode cX4_joinSets 44 = .ok (.aload 5, 2) := by decide +kernel
theorem dX4_joinSets_46 : decode cX4_joinSets 46 = .ok (.iload_n 1, 1) := by decide +kernel
theorem dX4_joinSets_47 : decode cX4_joinSets 47 = .ok (.putfield 90, 3) := by decide +kernel
theorem dX4_joinSets_50 : decode cX4_joinSets 50 = .ok (.iinc 3 1, 3) := by decide +kernel
theorem dX4_joinSets_53 : decode cX4_joinSets 53 = .ok (.iinc 4 1, 3) := by decide +kernel
theorem dX4_joinSets_56 : decode cX4_joinSets 56 = .ok (.goto (-51), 3) := by decide +kernel
theorem dX4_joinSets_59 : decode cX4_joinSets 59 = .ok (.iload_n 3, 1) := by decide +kernel
theorem dX4_joinSets_60 : decode cX4_joinSets 60 = .ok (.ireturn, 1) := by decide +kernel
set_option maxRecDepth 20000 in
theorem ggX4_stepOfReady_X4_switchBanks : GoodIn wsX4_stepOfReady wsX4_switchBanks := goodIn_r _ [8, 1, 9, 3, 10, 11, 12, 13, 14, 15, 16, 17, 18, 19, 20, 21, 7, 22, 23, 24, 25, 26, 27, 28, 29, 30, 31, 32, 33, 34, 35, 36, 37, 58, 59, 60, 61, 62, 63, 64, 65, 66, 67, 68, 69, 70, 71, 72, 73, 74, 75, 76, 77, 78, 79, 80, 81, 82, 83, 84, 85, 86] (by decide +kernel) (by decide +kernel)
set_option maxRecDepth 20000 in
theorem gX4_stepOfReady_X4_switchBanks : GoodIn wsX4_stepOfReady (wsV RX4 127 RX4 yX4_switchBanks wsX4_switchBanks) := goodIn_app (goodIn_of _ (by decide +kernel)) ggX4_stepOfReady_X4_switchBanks
set_option maxRecDepth 20000 in
theorem ggX4_stepOfReady_X4_bothHold : GoodIn wsX4_stepOfReady wsX4_bothHold := goodIn_r _ [41, 42, 43, 79, 80, 81, 82, 83, 84, 85, 86] (by decide +kernel) (by decide +kernel)
set_option maxRecDepth 20000 in
theorem gX4_stepOfReady_X4_bothHold : GoodIn wsX4_stepOfReady (wsV RX4 104 RX4 yX4_bothHold wsX4_bothHold) := goodIn_app (goodIn_of _ (by decide +kernel)) ggX4_stepOfReady_X4_bothHold
set_option maxRecDepth 20000 in
theorem ggX4_stepOfReady_X4_allCanCommit : GoodIn wsX4_stepOfReady wsX4_allCanCommit := goodIn_r _ [47, 23, 24, 1, 9, 25, 26, 27, 28, 29, 30, 31, 48, 49, 50, 13, 51, 52, 53, 79, 80, 81, 82, 83, 84, 85, 86, 58, 59, 60, 61, 62, 63, 64, 65, 66, 67, 68, 69, 70, 71, 72, 73, 74, 75] (by decide +kernel) (by decide +kernel)
set_option maxRecDepth 20000 in
theorem gX4_stepOfReady_X4_allCanCommit : GoodIn wsX4_stepOfReady (wsV RX4 182 RX4 yX4_allCanCommit wsX4_allCanCommit) := goodIn_app (goodIn_of _ (by decide +kernel)) ggX4_stepOfReady_X4_allCanCommit
set_option maxRecDepth 20000 in
theorem ggX4_stepOfReady_X4_commit : GoodIn wsX4_stepOfReady wsX4_commit := goodIn_r _ [57, 23, 24, 1, 2, 25, 26, 27, 28, 29, 30, 31, 79, 80, 81, 82, 83, 84, 85, 86, 58, 59, 60, 61, 62, 63, 64, 65, 66, 67, 68, 69, 70, 71, 72, 73, 74, 75] (by decide +kernel) (by decide +kernel)
set_option maxRecDepth 20000 in
theorem gX4_stepOfReady_X4_commit : GoodIn wsX4_stepOfReady (wsV RX4 185 RX4 yX4_commit wsX4_commit) := goodIn_app (goodIn_of _ (by decide +kernel)) ggX4_stepOfReady_X4_commit
theorem dX4_stepOfReady_0 : decode cX4_stepOfReady 0 = .ok (.aload_n 1, 1) := by decide +kernel
theorem dX4_stepOfReady_1 : decode cX4_stepOfReady 1 = .ok (.getfield 54, 3) := by decide +kernel
theorem dX4_stepOfReady_4 : decode cX4_stepOfReady 4 = .ok (.getfield 87, 3) := by decide +kernel
theorem dX4_stepOfReady_7 : decode cX4_stepOfReady 7 = .ok (.ifCond .eq 10, 3) := by decide +kernel
theorem dX4_stepOfReady_10 : decode cX4_stepOfReady 10 = .ok (.aload_n 0, 1) := by decide +kernel
theorem dX4_stepOfReady_11 : decode cX4_stepOfReady 11 = .ok (.aload_n 1, 1) := by decide +kernel
theorem dX4_stepOfReady_12 : decode cX4_stepOfReady 12 = .ok (.invokevirtual 127, 3) := by decide +kernel
theorem dX4_stepOfReady_15 : decode cX4_stepOfReady 15 = .ok (.iconst 3, 1) := by decide +kernel
theorem dX4_stepOfReady_16 : decode cX4_stepOfReady 16 = .ok (.ireturn, 1) := by decide +kernel
theorem dX4_stepOfReady_17 : decode cX4_stepOfReady 17 = .ok (.aload_n 0, 1) := by decide +kernel
theorem dX4_stepOfReady_18 : decode cX4_stepOfReady 18 = .ok (.invokevirtual 104, 3) := by decide +kernel
theorem dX4_stepOfReady_21 : decode cX4_stepOfReady 21 = .ok (.ifCond .eq 28, 3) := by decide +kernel
theorem dX4_stepOfReady_24 : decode cX4_stepOfReady 24 = .ok (.aload_n 0, 1) := by decide +kernel
theorem dX4_stepOfReady_25 : decode cX4_stepOfReady 25 = .ok (.aload_n 1, 1) := by decide +kernel
theorem dX4_stepOfReady_26 : decode cX4_stepOfReady 26 = .ok (.getfield 54, 3) := by decide +kernel
theorem dX4_stepOfReady_29 : decode cX4_stepOfReady 29 = .ok (.getfield 90, 3) := by decide +kernel
theorem dX4_stepOfReady_32 : decode cX4_stepOfReady 32 = .ok (.invokevirtual 182, 3) := by decide +kernel
theorem dX4_stepOfReady_35 : decode cX4_stepOfReady 35 = .ok (.ifCond .eq 14, 3) := by decide +kernel
theorem dX4_stepOfReady_38 : decode cX4_stepOfReady 38 = .ok (.aload_n 0, 1) := by decide +kernel
theorem dX4_stepOfReady_39 : decode cX4_stepOfReady 39 = .ok (.aload_n 1, 1) := by decide +kernel
theorem dX4_stepOfReady_40 : decode cX4_stepOfReady 40 = .ok (.getfield 54, 3) := by decide +kernel
theorem dX4_stepOfReady_43 : decode cX4_stepOfReady 43 = .ok (.getfield 90, 3) := by decide +kernel
theorem dX4_stepOfReady_46 : decode cX4_stepOfReady 46 = .ok (.invokevirtual 185, 3) := by decide +kernel
theorem dX4_stepOfReady_49 : decode cX4_stepOfReady 49 = .ok (.iconst 2, 1) := by decide +kernel
theorem dX4_stepOfReady_50 : decode cX4_stepOfReady 50 = .ok (.ireturn, 1) := by decide +kernel
set_option maxRecDepth 20000 in
theorem ggX4_allCanCommit_X3_isOf : GoodIn wsX4_allCanCommit wsX3_isOf := goodIn_r _ [9, 10, 11, 37, 38, 39, 40, 41, 42, 43, 44] (by decide +kernel) (by decide +kernel)
set_option maxRecDepth 20000 in
theorem gX4_allCanCommit_X3_isOf : GoodIn wsX4_allCanCommit (wsV RX4 179 RX3 yX3_isOf wsX3_isOf) := goodIn_app (goodIn_of _ (by decide +kernel)) ggX4_allCanCommit_X3_isOf
set_option maxRecDepth 20000 in
theorem ggX4_allCanCommit_X1_isAway : GoodIn wsX4_allCanCommit wsX1_isAway := goodIn_r _ [16, 17, 18, 27, 28, 29, 30, 31, 32, 33, 34, 35, 36] (by decide +kernel) (by decide +kernel)
set_option maxRecDepth 20000 in
theorem gX4_allCanCommit_X1_isAway : GoodIn wsX4_allCanCommit (wsV RX4 108 RX1 yX1_isAway wsX1_isAway) := goodIn_app (goodIn_of _ (by decide +kernel)) ggX4_allCanCommit_X1_isAway
theorem dX4_allCanCommit_0 : decode cX4_allCanCommit 0 = .ok (.iconst 0, 1) := by decide +kernel
theorem dX4_allCanCommit_1 : decode cX4_allCanCommit 1 = .ok (.istore_n 2, 1) := by decide +kernel
theorem dX4_allCanCommit_2 : decode cX4_allCanCommit 2 = .ok (.iload_n 2, 1) := by decide +kernel
theorem dX4_allCanCommit_3 : decode cX4_allCanCommit 3 = .ok (.aload_n 0, 1) := by decide +kernel
theorem dX4_allCanCommit_4 : decode cX4_allCanCommit 4 = .ok (.getfield 33, 3) := by decide +kernel
theorem dX4_allCanCommit_7 : decode cX4_allCanCommit 7 = .ok (.if_icmp .ge 47, 3) := by decide +kernel
theorem dX4_allCanCommit_10 : decode cX4_allCanCommit 10 = .ok (.aload_n 0, 1) := by decide +kernel
theorem dX4_allCanCommit_11 : decode cX4_allCanCommit 11 = .ok (.getfield 11, 3) := by decide +kernel
theorem dX4_allCanCommit_14 : decode cX4_allCanCommit 14 = .ok (.iload_n 2, 1) := by decide +kernel
theorem dX4_allCanCommit_15 : decode cX4_allCanCommit 15 = .ok (.aaload, 1) := by decide +kernel
theorem dX4_allCanCommit_16 : decode cX4_allCanCommit 16 = .ok (.astore_n 3, 1) := by decide +kernel
theorem dX4_allCanCommit_17 : decode cX4_allCanCommit 17 = .ok (.aload_n 3, 1) := by decide +kernel
theorem dX4_allCanCommit_18 : decode cX4_allCanCommit 18 = .ok (.getfield 54, 3) := by decide +kernel
theorem dX4_allCanCommit_21 : decode cX4_allCanCommit 21 = .ok (.iload_n 1, 1) := by decide +kernel
theorem dX4_allCanCommit_22 : decode cX4_allCanCommit 22 = .ok (.invokevirtual 179, 3) := by decide +kernel
theorem dX4_allCanCommit_25 : decode cX4_allCanCommit 25 = .ok (.ifCond .eq 23, 3) := by decide +kernel
theorem dX4_allCanCommit_28 : decode cX4_allCanCommit 28 = .ok (.aload_n 3, 1) := by decide +kernel
theorem dX4_allCanCommit_29 : decode cX4_allCanCommit 29 = .ok (.getfield 54, 3) := by decide +kernel
theorem dX4_allCanCommit_32 : decode cX4_allCanCommit 32 = .ok (.getfield 111, 3) := by decide +kernel
theorem dX4_allCanCommit_35 : decode cX4_allCanCommit 35 = .ok (.iconst 2, 1) := by decide +kernel
theorem dX4_allCanCommit_36 : decode cX4_allCanCommit 36 = .ok (.if_icmp .ne 10, 3) := by decide +kernel
theorem dX4_allCanCommit_39 : decode cX4_allCanCommit 39 = .ok (.aload_n 3, 1) := by decide +kernel
theorem dX4_allCanCommit_40 : decode cX4_allCanCommit 40 = .ok (.invokevirtual 108, 3) := by decide +kernel
theorem dX4_allCanCommit_43 : decode cX4_allCanCommit 43 = .ok (.ifCond .eq 5, 3) := by decide +kernel
theorem dX4_allCanCommit_46 : decode cX4_allCanCommit 46 = .ok (.iconst 0, 1) := by decide +kernel
theorem dX4_allCanCommit_47 : decode cX4_allCanCommit 47 = .ok (.ireturn, 1) := by decide +kernel
theorem dX4_allCanCommit_48 : decode cX4_allCanCommit 48 = .ok (.iinc 2 1, 3) := by decide +kernel
theorem dX4_allCanCommit_51 : decode cX4_allCanCommit 51 = .ok (.goto (-49), 3) := by decide +kernel
theorem dX4_allCanCommit_54 : decode cX4_allCanCommit 54 = .ok (.iconst 1, 1) := by decide +kernel
theorem dX4_allCanCommit_55 : decode cX4_allCanCommit 55 = .ok (.ireturn, 1) := by decide +kernel
set_option maxRecDepth 20000 in
theorem ggX4_commit_X3_isOf : GoodIn wsX4_commit wsX3_isOf := goodIn_r _ [9, 10, 11, 30, 31, 32, 33, 34, 35, 36, 37] (by decide +kernel) (by decide +kernel)
set_option maxRecDepth 20000 in
theorem gX4_commit_X3_isOf : GoodIn wsX4_commit (wsV RX4 179 RX3 yX3_isOf wsX3_isOf) := goodIn_app (goodIn_of _ (by decide +kernel)) ggX4_commit_X3_isOf
theorem dX4_commit_0 : decode cX4_commit 0 = .ok (.iconst 0, 1) := by decide +kernel
theorem dX4_commit_1 : decode cX4_commit 1 = .ok (.istore_n 2, 1) := by decide +kernel
theorem dX4_commit_2 : decode cX4_commit 2 = .ok (.iload_n 2, 1) := by decide +kernel
theorem dX4_commit_3 : decode cX4_commit 3 = .ok (.aload_n 0, 1) := by decide +kernel
theorem dX4_commit_4 : decode cX4_commit 4 = .ok (.getfield 33, 3) := by decide +kernel
theorem dX4_commit_7 : decode cX4_commit 7 = .ok (.if_icmp .ge 32, 3) := by decide +kernel
theorem dX4_commit_10 : decode cX4_commit 10 = .ok (.aload_n 0, 1) := by decide +kernel
theorem dX4_commit_11 : decode cX4_commit 11 = .ok (.getfield 11, 3) := by decide +kernel
theorem dX4_commit_14 : decode cX4_commit 14 = .ok (.iload_n 2, 1) := by decide +kernel
theorem dX4_commit_15 : decode cX4_commit 15 = .ok (.aaload, 1) := by decide +kernel
theorem dX4_commit_16 : decode cX4_commit 16 = .ok (.getfield 54, 3) := by decide +kernel
theorem dX4_commit_19 : decode cX4_commit 19 = .ok (.astore_n 3, 1) := by decide +kernel
theorem dX4_commit_20 : decode cX4_commit 20 = .ok (.aload_n 3, 1) := by decide +kernel
theorem dX4_commit_21 : decode cX4_commit 21 = .ok (.iload_n 1, 1) := by decide +kernel
theorem dX4_commit_22 : decode cX4_commit 22 = .ok (.invokevirtual 179, 3) := by decide +kernel
theorem dX4_commit_25 : decode cX4_commit 25 = .ok (.ifCond .eq 8, 3) := by decide +kernel
theorem dX4_commit_28 : decode cX4_commit 28 = .ok (.aload_n 3, 1) := by decide +kernel
theorem dX4_commit_29 : decode cX4_commit 29 = .ok (.iconst 1, 1) := by decide +kernel
theorem dX4_commit_30 : decode cX4_commit 30 = .ok (.putfield 87, 3) := by decide +kernel
theorem dX4_commit_33 : decode cX4_commit 33 = .ok (.iinc 2 1, 3) := by decide +kernel
theorem dX4_commit_36 : decode cX4_commit 36 = .ok (.goto (-34), 3) := by decide +kernel
theorem dX4_commit_39 : decode cX4_commit 39 = .ok (.return_, 1) := by decide +kernel
set_option maxRecDepth 20000 in
theorem ggX4_switchBanks_X1_runOtherBank : GoodIn wsX4_switchBanks wsX1_runOtherBank := goodIn_r _ [8, 9, 10, 11, 12, 33, 34, 35, 36, 37, 38, 39, 40, 41, 42, 51, 52, 53] (by decide +kernel) (by decide +kernel)
set_option maxRecDepth 20000 in
theorem gX4_switchBanks_X1_runOtherBank : GoodIn wsX4_switchBanks (wsV RX4 164 RX1 yX1_runOtherBank wsX1_runOtherBank) := goodIn_app (goodIn_of _ (by decide +kernel)) ggX4_switchBanks_X1_runOtherBank
set_option maxRecDepth 20000 in
theorem ggX4_switchBanks_X4_allSwitched : GoodIn wsX4_switchBanks wsX4_allSwitched := goodIn_r _ [17, 18, 19, 1, 2, 20, 21, 22, 23, 24, 25, 26, 54, 55, 56, 57, 58, 59, 60, 61, 33, 34, 35, 36, 37, 38, 39, 40, 41, 42, 43, 44, 45, 46, 47, 48, 49, 50] (by decide +kernel) (by decide +kernel)
set_option maxRecDepth 20000 in
theorem gX4_switchBanks_X4_allSwitched : GoodIn wsX4_switchBanks (wsV RX4 188 RX4 yX4_allSwitched wsX4_allSwitched) := goodIn_app (goodIn_of _ (by decide +kernel)) ggX4_switchBanks_X4_allSwitched
set_option maxRecDepth 20000 in
theorem ggX4_switchBanks_X4_makeLastSet : GoodIn wsX4_switchBanks wsX4_makeLastSet := goodIn_r _ [30, 18, 19, 1, 31, 32, 2, 20, 21, 22, 23, 24, 25, 26, 54, 55, 56, 57, 58, 59, 60, 61, 33, 34, 35, 36, 37, 38, 39, 40, 41, 42, 43, 44, 45, 46, 47, 48, 49, 50] (by decide +kernel) (by decide +kernel)
set_option maxRecDepth 20000 in
theorem gX4_switchBanks_X4_makeLastSet : GoodIn wsX4_switchBanks (wsV RX4 191 RX4 yX4_makeLastSet wsX4_makeLastSet) := goodIn_app (goodIn_of _ (by decide +kernel)) ggX4_switchBanks_X4_makeLastSet
theorem dX4_switchBanks_0 : decode cX4_switchBanks 0 = .ok (.aload_n 1, 1) := by decide +kernel
theorem dX4_switchBanks_1 : decode cX4_switchBanks 1 = .ok (.invokevirtual 164, 3) := by decide +kernel
theorem dX4_switchBanks_4 : decode cX4_switchBanks 4 = .ok (.aload_n 1, 1) := by decide +kernel
theorem dX4_switchBanks_5 : decode cX4_switchBanks 5 = .ok (.getfield 54, 3) := by decide +kernel
theorem dX4_switchBanks_8 : decode cX4_switchBanks 8 = .ok (.iconst 3, 1) := by decide +kernel
theorem dX4_switchBanks_9 : decode cX4_switchBanks 9 = .ok (.putfield 111, 3) := by decide +kernel
theorem dX4_switchBanks_12 : decode cX4_switchBanks 12 = .ok (.aload_n 0, 1) := by decide +kernel
theorem dX4_switchBanks_13 : decode cX4_switchBanks 13 = .ok (.aload_n 1, 1) := by decide +kernel
theorem dX4_switchBanks_14 : decode cX4_switchBanks 14 = .ok (.getfield 54, 3) := by decide +kernel
theorem dX4_switchBanks_17 : decode cX4_switchBanks 17 = .ok (.getfield 90, 3) := by decide +kernel
theorem dX4_switchBanks_20 : decode cX4_switchBanks 20 = .ok (.invokevirtual 188, 3) := by decide +kernel
theorem dX4_switchBanks_23 : decode cX4_switchBanks 23 = .ok (.ifCond .eq 14, 3) := by decide +kernel
theorem dX4_switchBanks_26 : decode cX4_switchBanks 26 = .ok (.aload_n 0, 1) := by decide +kernel
theorem dX4_switchBanks_27 : decode cX4_switchBanks 27 = .ok (.aload_n 1, 1) := by decide +kernel
theorem dX4_switchBanks_28 : decode cX4_switchBanks 28 = .ok (.getfield 54, 3) := by decide +kernel
theorem dX4_switchBanks_31 : decode cX4_switchBanks 31 = .ok (.getfield 90, 3) := by decide +kernel
theorem dX4_switchBanks_34 : decode cX4_switchBanks 34 = .ok (.invokevirtual 191, 3) := by decide +kernel
theorem dX4_switchBanks_37 : decode cX4_switchBanks 37 = .ok (.return_, 1) := by decide +kernel
set_option maxRecDepth 20000 in
theorem ggX4_allSwitched_X3_isOf : GoodIn wsX4_allSwitched wsX3_isOf := goodIn_r _ [9, 10, 11, 30, 31, 32, 33, 34, 35, 36, 37] (by decide +kernel) (by decide +kernel)
set_option maxRecDepth 20000 in
theorem gX4_allSwitched_X3_isOf : GoodIn wsX4_allSwitched (wsV RX4 179 RX3 yX3_isOf wsX3_isOf) := goodIn_app (goodIn_of _ (by decide +kernel)) ggX4_allSwitched_X3_isOf
theorem dX4_allSwitched_0 : decode cX4_allSwitched 0 = .ok (.iconst 0, 1) := by decide +kernel
theorem dX4_allSwitched_1 : decode cX4_allSwitched 1 = .ok (.istore_n 2, 1) := by decide +kernel
theorem dX4_allSwitched_2 : decode cX4_allSwitched 2 = .ok (.iload_n 2, 1) := by decide +kernel
theorem dX4_allSwitched_3 : decode cX4_allSwitched 3 = .ok (.aload_n 0, 1) := by decide +kernel
theorem dX4_allSwitched_4 : decode cX4_allSwitched 4 = .ok (.getfield 33, 3) := by decide +kernel
theorem dX4_allSwitched_7 : decode cX4_allSwitched 7 = .ok (.if_icmp .ge 37, 3) := by decide +kernel
theorem dX4_allSwitched_10 : decode cX4_allSwitched 10 = .ok (.aload_n 0, 1) := by decide +kernel
theorem dX4_allSwitched_11 : decode cX4_allSwitched 11 = .ok (.getfield 11, 3) := by decide +kernel
theorem dX4_allSwitched_14 : decode cX4_allSwitched 14 = .ok (.iload_n 2, 1) := by decide +kernel
theorem dX4_allSwitched_15 : decode cX4_allSwitched 15 = .ok (.aaload, 1) := by decide +kernel
theorem dX4_allSwitched_16 : decode cX4_allSwitched 16 = .ok (.getfield 54, 3) := by decide +kernel
theorem dX4_allSwitched_19 : decode cX4_allSwitched 19 = .ok (.astore_n 3, 1) := by decide +kernel
theorem dX4_allSwitched_20 : decode cX4_allSwitched 20 = .ok (.aload_n 3, 1) := by decide +kernel
theorem dX4_allSwitched_21 : decode cX4_allSwitched 21 = .ok (.iload_n 1, 1) := by decide +kernel
theorem dX4_allSwitched_22 : decode cX4_allSwitched 22 = .ok (.invokevirtual 179, 3) := by decide +kernel
theorem dX4_allSwitched_25 : decode cX4_allSwitched 25 = .ok (.ifCond .eq 13, 3) := by decide +kernel
theorem dX4_allSwitched_28 : decode cX4_allSwitched 28 = .ok (.aload_n 3, 1) := by decide +kernel
theorem dX4_allSwitched_29 : decode cX4_allSwitched 29 = .ok (.getfield 111, 3) := by decide +kernel
theorem dX4_allSwitched_32 : decode cX4_allSwitched 32 = .ok (.iconst 3, 1) := by decide +kernel
theorem dX4_allSwitched_33 : decode cX4_allSwitched 33 = .ok (.if_icmp .eq 5, 3) := by decide +kernel
theorem dX4_allSwitched_36 : decode cX4_allSwitched 36 = .ok (.iconst 0, 1) := by decide +kernel
theorem dX4_allSwitched_37 : decode cX4_allSwitched 37 = .ok (.ireturn, 1) := by decide +kernel
theorem dX4_allSwitched_38 : decode cX4_allSwitched 38 = .ok (.iinc 2 1, 3) := by decide +kernel
theorem dX4_allSwitched_41 : decode cX4_allSwitched 41 = .ok (.goto (-39), 3) := by decide +kernel
theorem dX4_allSwitched_44 : decode cX4_allSwitched 44 = .ok (.iconst 1, 1) := by decide +kernel
theorem dX4_allSwitched_45 : decode cX4_allSwitched 45 = .ok (.ireturn, 1) := by decide +kernel
set_option maxRecDepth 20000 in
theorem ggX4_makeLastSet_X3_isOf : GoodIn wsX4_makeLastSet wsX3_isOf := goodIn_r _ [11, 12, 13, 32, 33, 34, 35, 36, 37, 38, 39] (by decide +kernel) (by decide +kernel)
set_option maxRecDepth 20000 in
theorem gX4_makeLastSet_X3_isOf : GoodIn wsX4_makeLastSet (wsV RX4 179 RX3 yX3_isOf wsX3_isOf) := goodIn_app (goodIn_of _ (by decide +kernel)) ggX4_makeLastSet_X3_isOf
theorem dX4_makeLastSet_0 : decode cX4_makeLastSet 0 = .ok (.iconst 0, 1) := by decide +kernel
theorem dX4_makeLastSet_1 : decode cX4_makeLastSet 1 = .ok (.istore_n 2, 1) := by decide +kernel
theorem dX4_makeLastSet_2 : decode cX4_makeLastSet 2 = .ok (.iload_n 2, 1) := by decide +kernel
theorem dX4_makeLastSet_3 : decode cX4_makeLastSet 3 = .ok (.aload_n 0, 1) := by decide +kernel
theorem dX4_makeLastSet_4 : decode cX4_makeLastSet 4 = .ok (.getfield 33, 3) := by decide +kernel
theorem dX4_makeLastSet_7 : decode cX4_makeLastSet 7 = .ok (.if_icmp .ge 54, 3) := by decide +kernel
theorem dX4_makeLastSet_10 : decode cX4_makeLastSet 10 = .ok (.aload_n 0, 1) := by decide +kernel
theorem dX4_makeLastSet_11 : decode cX4_makeLastSet 11 = .ok (.getfield 11, 3) := by decide +kernel
theorem dX4_makeLastSet_14 : decode cX4_makeLastSet 14 = .ok (.iload_n 2, 1) := by decide +kernel
theorem dX4_makeLastSet_15 : decode cX4_makeLastSet 15 = .ok (.aaload, 1) := by decide +kernel
theorem dX4_makeLastSet_16 : decode cX4_makeLastSet 16 = .ok (.astore_n 3, 1) := by decide +kernel
theorem dX4_makeLastSet_17 : decode cX4_makeLastSet 17 = .ok (.aload_n 3, 1) := by decide +kernel
theorem dX4_makeLastSet_18 : decode cX4_makeLastSet 18 = .ok (.getfield 54, 3) := by decide +kernel
theorem dX4_makeLastSet_21 : decode cX4_makeLastSet 21 = .ok (.iload_n 1, 1) := by decide +kernel
theorem dX4_makeLastSet_22 : decode cX4_makeLastSet 22 = .ok (.invokevirtual 179, 3) := by decide +kernel
theorem dX4_makeLastSet_25 : decode cX4_makeLastSet 25 = .ok (.ifCond .eq 25, 3) := by decide +kernel
theorem dX4_makeLastSet_28 : decode cX4_makeLastSet 28 = .ok (.aload_n 3, 1) := by decide +kernel
theorem dX4_makeLastSet_29 : decode cX4_makeLastSet 29 = .ok (.aload_n 3, 1) := by decide +kernel
theorem dX4_makeLastSet_30 : decode cX4_makeLastSet 30 = .ok (.getfield 54, 3) := by decide +kernel
theorem dX4_makeLastSet_33 : decode cX4_makeLastSet 33 = .ok (.getfield 173, 3) := by decide +kernel
theorem dX4_makeLastSet_36 : decode cX4_makeLastSet 36 = .ok (.putfield 158, 3) := by decide +kernel
theorem dX4_makeLastSet_39 : decode cX4_makeLastSet 39 = .ok (.aload_n 3, 1) := by decide +kernel
theorem dX4_makeLastSet_40 : decode cX4_makeLastSet 40 = .ok (.getfield 54, 3) := by decide +kernel
theorem dX4_makeLastSet_43 : decode cX4_makeLastSet 43 = .ok (.iconst 0, 1) := by decide +kernel
theorem dX4_makeLastSet_44 : decode cX4_makeLastSet 44 = .ok (.putfield 111, 3) := by decide +kernel
theorem dX4_makeLastSet_47 : decode cX4_makeLastSet 47 = .ok (.goto 8, 3) := by decide +kernel
theorem dX4_makeLastSet_50 : decode cX4_makeLastSet 50 = .ok (.aload_n 3, 1) := by decide +kernel
theorem dX4_makeLastSet_51 : decode cX4_makeLastSet 51 = .ok (.iconst 0, 1) := by decide +kernel
theorem dX4_makeLastSet_52 : decode cX4_makeLastSet 52 = .ok (.putfield 158, 3) := by decide +kernel
theorem dX4_makeLastSet_55 : decode cX4_makeLastSet 55 = .ok (.iinc 2 1, 3) := by decide +kernel
theorem dX4_makeLastSet_58 : decode cX4_makeLastSet 58 = .ok (.goto (-56), 3) := by decide +kernel
theorem dX4_makeLastSet_61 : decode cX4_makeLastSet 61 = .ok (.return_, 1) := by decide +kernel
set_option maxRecDepth 20000 in
theorem ggX4_hasLastSet_X1_isOfLastSet : GoodIn wsX4_hasLastSet wsX1_isOfLastSet := goodIn_r _ [7, 8, 17, 18, 19, 20, 21, 22, 23, 24, 25, 26] (by decide +kernel) (by decide +kernel)
set_option maxRecDepth 20000 in
theorem gX4_hasLastSet_X1_isOfLastSet : GoodIn wsX4_hasLastSet (wsV RX4 152 RX1 yX1_isOfLastSet wsX1_isOfLastSet) := goodIn_app (goodIn_of _ (by decide +kernel)) ggX4_hasLastSet_X1_isOfLastSet
theorem dX4_hasLastSet_0 : decode cX4_hasLastSet 0 = .ok (.iconst 0, 1) := by decide +kernel
theorem dX4_hasLastSet_1 : decode cX4_hasLastSet 1 = .ok (.istore_n 1, 1) := by decide +kernel
theorem dX4_hasLastSet_2 : decode cX4_hasLastSet 2 = .ok (.iload_n 1, 1) := by decide +kernel
theorem dX4_hasLastSet_3 : decode cX4_hasLastSet 3 = .ok (.aload_n 0, 1) := by decide +kernel
theorem dX4_hasLastSet_4 : decode cX4_hasLastSet 4 = .ok (.getfield 33, 3) := by decide +kernel
theorem dX4_hasLastSet_7 : decode cX4_hasLastSet 7 = .ok (.if_icmp .ge 23, 3) := by decide +kernel
theorem dX4_hasLastSet_10 : decode cX4_hasLastSet 10 = .ok (.aload_n 0, 1) := by decide +kernel
theorem dX4_hasLastSet_11 : decode cX4_hasLastSet 11 = .ok (.getfield 11, 3) := by decide +kernel
theorem dX4_hasLastSet_14 : decode cX4_hasLastSet 14 = .ok (.iload_n 1, 1) := by decide +kernel
theorem dX4_hasLastSet_15 : decode cX4_hasLastSet 15 = .ok (.aaload, 1) := by decide +kernel
theorem dX4_hasLastSet_16 : decode cX4_hasLastSet 16 = .ok (.invokevirtual 152, 3) := by decide +kernel
theorem dX4_hasLastSet_19 : decode cX4_hasLastSet 19 = .ok (.ifCond .eq 5, 3) := by decide +kernel
theorem dX4_hasLastSet_22 : decode cX4_hasLastSet 22 = .ok (.iconst 1, 1) := by decide +kernel
theorem dX4_hasLastSet_23 : decode cX4_hasLastSet 23 = .ok (.ireturn, 1) := by decide +kernel
theorem dX4_hasLastSet_24 : decode cX4_hasLastSet 24 = .ok (.iinc 1 1, 3) := by decide +kernel
theorem dX4_hasLastSet_27 : decode cX4_hasLastSet 27 = .ok (.goto (-25), 3) := by decide +kernel
theorem dX4_hasLastSet_30 : decode cX4_hasLastSet 30 = .ok (.iconst 0, 1) := by decide +kernel
theorem dX4_hasLastSet_31 : decode cX4_hasLastSet 31 = .ok (.ireturn, 1) := by decide +kernel
set_option maxRecDepth 20000 in
theorem ggX4_lastSetMayGoBack_X1_isOfLastSet : GoodIn wsX4_lastSetMayGoBack wsX1_isOfLastSet := goodIn_r _ [9, 10, 25, 26, 27, 28, 29, 30, 31, 32, 33, 34] (by decide +kernel) (by decide +kernel)
set_option maxRecDepth 20000 in
theorem gX4_lastSetMayGoBack_X1_isOfLastSet : GoodIn wsX4_lastSetMayGoBack (wsV RX4 152 RX1 yX1_isOfLastSet wsX1_isOfLastSet) := goodIn_app (goodIn_of _ (by decide +kernel)) ggX4_lastSetMayGoBack_X1_isOfLastSet
set_option maxRecDepth 20000 in
theorem ggX4_lastSetMayGoBack_X1_isAway : GoodIn wsX4_lastSetMayGoBack wsX1_isAway := goodIn_r _ [14, 15, 16, 25, 26, 27, 28, 29, 30, 31, 32, 33, 34] (by decide +kernel) (by decide +kernel)
set_option maxRecDepth 20000 in
theorem gX4_lastSetMayGoBack_X1_isAway : GoodIn wsX4_lastSetMayGoBack (wsV RX4 108 RX1 yX1_isAway wsX1_isAway) := goodIn_app (goodIn_of _ (by decide +kernel)) ggX4_lastSetMayGoBack_X1_isAway
theorem dX4_lastSetMayGoBack_0 : decode cX4_lastSetMayGoBack 0 = .ok (.iconst 0, 1) := by decide +kernel
theorem dX4_lastSetMayGoBack_1 : decode cX4_lastSetMayGoBack 1 = .ok (.istore_n 1, 1) := by decide +kernel
theorem dX4_lastSetMayGoBack_2 : decode cX4_lastSetMayGoBack 2 = .ok (.iload_n 1, 1) := by decide +kernel
theorem dX4_lastSetMayGoBack_3 : decode cX4_lastSetMayGoBack 3 = .ok (.aload_n 0, 1) := by decide +kernel
theorem dX4_lastSetMayGoBack_4 : decode cX4_lastSetMayGoBack 4 = .ok (.getfield 33, 3) := by decide +kernel
theorem dX4_lastSetMayGoBack_7 : decode cX4_lastSetMayGoBack 7 = .ok (.if_icmp .ge 42, 3) := by decide +kernel
theorem dX4_lastSetMayGoBack_10 : decode cX4_lastSetMayGoBack 10 = .ok (.aload_n 0, 1) := by decide +kernel
theorem dX4_lastSetMayGoBack_11 : decode cX4_lastSetMayGoBack 11 = .ok (.getfield 11, 3) := by decide +kernel
theorem dX4_lastSetMayGoBack_14 : decode cX4_lastSetMayGoBack 14 = .ok (.iload_n 1, 1) := by decide +kernel
theorem dX4_lastSetMayGoBack_15 : decode cX4_lastSetMayGoBack 15 = .ok (.aaload, 1) := by decide +kernel
theorem dX4_lastSetMayGoBack_16 : decode cX4_lastSetMayGoBack 16 = .ok (.astore_n 2, 1) := by decide +kernel
theorem dX4_lastSetMayGoBack_17 : decode cX4_lastSetMayGoBack 17 = .ok (.aload_n 2, 1) := by decide +kernel
theorem dX4_lastSetMayGoBack_18 : decode cX4_lastSetMayGoBack 18 = .ok (.invokevirtual 152, 3) := by decide +kernel
theorem dX4_lastSetMayGoBack_21 : decode cX4_lastSetMayGoBack 21 = .ok (.ifCond .eq 22, 3) := by decide +kernel
theorem dX4_lastSetMayGoBack_24 : decode cX4_lastSetMayGoBack 24 = .ok (.aload_n 2, 1) := by decide +kernel
theorem dX4_lastSetMayGoBack_25 : decode cX4_lastSetMayGoBack 25 = .ok (.invokevirtual 108, 3) := by decide +kernel
theorem dX4_lastSetMayGoBack_28 : decode cX4_lastSetMayGoBack 28 = .ok (.ifCond .ne 13, 3) := by decide +kernel
theorem dX4_lastSetMayGoBack_31 : decode cX4_lastSetMayGoBack 31 = .ok (.aload_n 2, 1) := by decide +kernel
theorem dX4_lastSetMayGoBack_32 : decode cX4_lastSetMayGoBack 32 = .ok (.getfield 54, 3) := by decide +kernel
theorem dX4_lastSetMayGoBack_35 : decode cX4_lastSetMayGoBack 35 = .ok (.getfield 111, 3) := by decide +kernel
theorem dX4_lastSetMayGoBack_38 : decode cX4_lastSetMayGoBack 38 = .ok (.ifCond .eq 5, 3) := by decide +kernel
theorem dX4_lastSetMayGoBack_41 : decode cX4_lastSetMayGoBack 41 = .ok (.iconst 0, 1) := by decide +kernel
theorem dX4_lastSetMayGoBack_42 : decode cX4_lastSetMayGoBack 42 = .ok (.ireturn, 1) := by decide +kernel
theorem dX4_lastSetMayGoBack_43 : decode cX4_lastSetMayGoBack 43 = .ok (.iinc 1 1, 3) := by decide +kernel
theorem dX4_lastSetMayGoBack_46 : decode cX4_lastSetMayGoBack 46 = .ok (.goto (-44), 3) := by decide +kernel
theorem dX4_lastSetMayGoBack_49 : decode cX4_lastSetMayGoBack 49 = .ok (.iconst 1, 1) := by decide +kernel
theorem dX4_lastSetMayGoBack_50 : decode cX4_lastSetMayGoBack 50 = .ok (.ireturn, 1) := by decide +kernel
set_option maxRecDepth 20000 in
theorem ggX5_init_X5_root : GoodIn wsX5_init wsX5_root := goodIn_ca (goodIn_r _ [38, 29, 39, 40, 41, 37, 42, 30, 43, 44, 45, 46, 47, 48, 49, 50, 51, 52, 53, 54, 55, 56, 57, 58, 59, 60, 61, 62, 63, 64, 65, 66, 67, 68, 69, 70, 71, 72, 73, 74, 75, 76, 77, 78, 79] (by decide +kernel) (by decide +kernel)) (goodIn_sub (fun _ h => List.mem_cons_of_mem _ (List.mem_append_right _ h)) (by decide +kernel))
set_option maxRecDepth 20000 in
theorem gX5_init_X5_root : GoodIn wsX5_init (wsV RX5 95 RX5 yX5_root wsX5_root) := goodIn_app (goodIn_of _ (by decide +kernel)) ggX5_init_X5_root
theorem dX5_init_0 : decode cX5_init 0 = .ok (.aload_n 0, 1) := by decide +kernel
theorem dX5_init_1 : decode cX5_init 1 = .ok (.invokespecial 1, 3) := by decide +kernel
theorem dX5_init_4 : decode cX5_init 4 = .ok (.aload_n 0, 1) := by decide +kernel
theorem dX5_init_5 : decode cX5_init 5 = .ok (.bipush 9, 2) := by decide +kernel
theorem dX5_init_7 : decode cX5_init 7 = .ok (.newarray .int, 2) := by decide +kernel
theorem dX5_init_9 : decode cX5_init 9 = .ok (.putfield 7, 3) := by decide +kernel
theorem dX5_init_12 : decode cX5_init 12 = .ok (.aload_n 0, 1) := by decide +kernel
theorem dX5_init_13 : decode cX5_init 13 = .ok (.bipush 9, 2) := by decide +kernel
theorem dX5_init_15 : decode cX5_init 15 = .ok (.newarray .int, 2) := by decide +kernel
theorem dX5_init_17 : decode cX5_init 17 = .ok (.putfield 13, 3) := by decide +kernel
theorem dX5_init_20 : decode cX5_init 20 = .ok (.aload_n 0, 1) := by decide +kernel
theorem dX5_init_21 : decode cX5_init 21 = .ok (.bipush 9, 2) := by decide +kernel
theorem dX5_init_23 : decode cX5_init 23 = .ok (.newarray .int, 2) := by decide +kernel
theorem dX5_init_25 : decode cX5_init 25 = .ok (.putfield 16, 3) := by decide +kernel
theorem dX5_init_28 : decode cX5_init 28 = .ok (.aload_n 0, 1) := by decide +kernel
theorem dX5_init_29 : decode cX5_init 29 = .ok (.bipush 9, 2) := by decide +kernel
theorem dX5_init_31 : decode cX5_init 31 = .ok (.newarray .int, 2) := by decide +kernel
theorem dX5_init_33 : decode cX5_init 33 = .ok (.putfield 19, 3) := by decide +kernel
theorem dX5_init_36 : decode cX5_init 36 = .ok (.aload_n 0, 1) := by decide +kernel
theorem dX5_init_37 : decode cX5_init 37 = .ok (.bipush 9, 2) := by decide +kernel
theorem dX5_init_39 : decode cX5_init 39 = .ok (.newarray .boolean, 2) := by decide +kernel
theorem dX5_init_41 : decode cX5_init 41 = .ok (.putfield 22, 3) := by decide +kernel
theorem dX5_init_44 : decode cX5_init 44 = .ok (.aload_n 0, 1) := by decide +kernel
theorem dX5_init_45 : decode cX5_init 45 = .ok (.bipush 9, 2) := by decide +kernel
theorem dX5_init_47 : decode cX5_init 47 = .ok (.newarray .boolean, 2) := by decide +kernel
theorem dX5_init_49 : decode cX5_init 49 = .ok (.putfield 26, 3) := by decide +kernel
theorem dX5_init_52 : decode cX5_init 52 = .ok (.aload_n 0, 1) := by decide +kernel
theorem dX5_init_53 : decode cX5_init 53 = .ok (.bipush 9, 2) := by decide +kernel
theorem dX5_init_55 : decode cX5_init 55 = .ok (.newarray .int, 2) := by decide +kernel
theorem dX5_init_57 : decode cX5_init 57 = .ok (.putfield 29, 3) := by decide +kernel
theorem dX5_init_60 : decode cX5_init 60 = .ok (.aload_n 0, 1) := by decide +kernel
theorem dX5_init_61 : decode cX5_init 61 = .ok (.bipush 9, 2) := by decide +kernel
theorem dX5_init_63 : decode cX5_init 63 = .ok (.newarray .int, 2) := by decide +kernel
theorem dX5_init_65 : decode cX5_init 65 = .ok (.putfield 32, 3) := by decide +kernel
theorem dX5_init_68 : decode cX5_init 68 = .ok (.aload_n 0, 1) := by decide +kernel
theorem dX5_init_69 : decode cX5_init 69 = .ok (.bipush 18, 2) := by decide +kernel
theorem dX5_init_71 : decode cX5_init 71 = .ok (.newarray .int, 2) := by decide +kernel
theorem dX5_init_73 : decode cX5_init 73 = .ok (.putfield 35, 3) := by decide +kernel
theorem dX5_init_76 : decode cX5_init 76 = .ok (.aload_n 0, 1) := by decide +kernel
theorem dX5_init_77 : decode cX5_init 77 = .ok (.sipush 4608, 3) := by decide +kernel
theorem dX5_init_80 : decode cX5_init 80 = .ok (.newarray .int, 2) := by decide +kernel
theorem dX5_init_82 : decode cX5_init 82 = .ok (.putfield 38, 3) := by decide +kernel
theorem dX5_init_85 : decode cX5_init 85 = .ok (.aload_n 0, 1) := by decide +kernel
theorem dX5_init_86 : decode cX5_init 86 = .ok (.bipush 61, 2) := by decide +kernel
theorem dX5_init_88 : decode cX5_init 88 = .ok (.newarray .int, 2) := by decide +kernel
theorem dX5_init_90 : decode cX5_init 90 = .ok (.putfield 41, 3) := by decide +kernel
theorem dX5_init_93 : decode cX5_init 93 = .ok (.aload_n 0, 1) := by decide +kernel
theorem dX5_init_94 : decode cX5_init 94 = .ok (.bipush 61, 2) := by decide +kernel
theorem dX5_init_96 : decode cX5_init 96 = .ok (.newarray .int, 2) := by decide +kernel
theorem dX5_init_98 : decode cX5_init 98 = .ok (.putfield 44, 3) := by decide +kernel
theorem dX5_init_101 : decode cX5_init 101 = .ok (.aload_n 0, 1) := by decide +kernel
theorem dX5_init_102 : decode cX5_init 102 = .ok (.bipush 61, 2) := by decide +kernel
theorem dX5_init_104 : decode cX5_init 104 = .ok (.newarray .int, 2) := by decide +kernel
theorem dX5_init_106 : decode cX5_init 106 = .ok (.putfield 47, 3) := by decide +kernel
theorem dX5_init_109 : decode cX5_init 109 = .ok (.aload_n 0, 1) := by decide +kernel
theorem dX5_init_110 : decode cX5_init 110 = .ok (.bipush 61, 2) := by decide +kernel
theorem dX5_init_112 : decode cX5_init 112 = .ok (.newarray .int, 2) := by decide +kernel
theorem dX5_init_114 : decode cX5_init 114 = .ok (.putfield 50, 3) := by decide +kernel
theorem dX5_init_117 : decode cX5_init 117 = .ok (.aload_n 0, 1) := by decide +kernel
theorem dX5_init_118 : decode cX5_init 118 = .ok (.bipush 61, 2) := by decide +kernel
theorem dX5_init_120 : decode cX5_init 120 = .ok (.newarray .int, 2) := by decide +kernel
theorem dX5_init_122 : decode cX5_init 122 = .ok (.putfield 53, 3) := by decide +kernel
theorem dX5_init_125 : decode cX5_init 125 = .ok (.aload_n 0, 1) := by decide +kernel
theorem dX5_init_126 : decode cX5_init 126 = .ok (.bipush 61, 2) := by decide +kernel
theorem dX5_init_128 : decode cX5_init 128 = .ok (.newarray .int, 2) := by decide +kernel
theorem dX5_init_130 : decode cX5_init 130 = .ok (.putfield 56, 3) := by decide +kernel
theorem dX5_init_133 : decode cX5_init 133 = .ok (.aload_n 0, 1) := by decide +kernel
theorem dX5_init_134 : decode cX5_init 134 = .ok (.bipush 61, 2) := by decide +kernel
theorem dX5_init_136 : decode cX5_init 136 = .ok (.newarray .int, 2) := by decide +kernel
theorem dX5_init_138 : decode cX5_init 138 = .ok (.putfield 59, 3) := by decide +kernel
theorem dX5_init_141 : decode cX5_init 141 = .ok (.aload_n 0, 1) := by decide +kernel
theorem dX5_init_142 : decode cX5_init 142 = .ok (.bipush 61, 2) := by decide +kernel
theorem dX5_init_144 : decode cX5_init 144 = .ok (.newarray .boolean, 2) := by decide +kernel
theorem dX5_init_146 : decode cX5_init 146 = .ok (.putfield 62, 3) := by decide +kernel
theorem dX5_init_149 : decode cX5_init 149 = .ok (.aload_n 0, 1) := by decide +kernel
theorem dX5_init_150 : decode cX5_init 150 = .ok (.sipush 15616, 3) := by decide +kernel
theorem dX5_init_153 : decode cX5_init 153 = .ok (.newarray .int, 2) := by decide +kernel
theorem dX5_init_155 : decode cX5_init 155 = .ok (.putfield 65, 3) := by decide +kernel
theorem dX5_init_158 : decode cX5_init 158 = .ok (.aload_n 0, 1) := by decide +kernel
theorem dX5_init_159 : decode cX5_init 159 = .ok (.sipush 256, 3) := by decide +kernel
theorem dX5_init_162 : decode cX5_init 162 = .ok (.newarray .int, 2) := by decide +kernel
theorem dX5_init_164 : decode cX5_init 164 = .ok (.putfield 68, 3) := by decide +kernel
theorem dX5_init_167 : decode cX5_init 167 = .ok (.aload_n 0, 1) := by decide +kernel
theorem dX5_init_168 : decode cX5_init 168 = .ok (.bipush 32, 2) := by decide +kernel
theorem dX5_init_170 : decode cX5_init 170 = .ok (.newarray .int, 2) := by decide +kernel
theorem dX5_init_172 : decode cX5_init 172 = .ok (.putfield 71, 3) := by decide +kernel
theorem dX5_init_175 : decode cX5_init 175 = .ok (.aload_n 0, 1) := by decide +kernel
theorem dX5_init_176 : decode cX5_init 176 = .ok (.bipush 8, 2) := by decide +kernel
theorem dX5_init_178 : decode cX5_init 178 = .ok (.newarray .int, 2) := by decide +kernel
theorem dX5_init_180 : decode cX5_init 180 = .ok (.putfield 74, 3) := by decide +kernel
theorem dX5_init_183 : decode cX5_init 183 = .ok (.aload_n 0, 1) := by decide +kernel
theorem dX5_init_184 : decode cX5_init 184 = .ok (.bipush 64, 2) := by decide +kernel
theorem dX5_init_186 : decode cX5_init 186 = .ok (.newarray .int, 2) := by decide +kernel
theorem dX5_init_188 : decode cX5_init 188 = .ok (.putfield 77, 3) := by decide +kernel
theorem dX5_init_191 : decode cX5_init 191 = .ok (.aload_n 0, 1) := by decide +kernel
theorem dX5_init_192 : decode cX5_init 192 = .ok (.bipush 12, 2) := by decide +kernel
theorem dX5_init_194 : decode cX5_init 194 = .ok (.newarray .int, 2) := by decide +kernel
theorem dX5_init_196 : decode cX5_init 196 = .ok (.putfield 80, 3) := by decide +kernel
theorem dX5_init_199 : decode cX5_init 199 = .ok (.aload_n 0, 1) := by decide +kernel
theorem dX5_init_200 : decode cX5_init 200 = .ok (.bipush 12, 2) := by decide +kernel
theorem dX5_init_202 : decode cX5_init 202 = .ok (.newarray .int, 2) := by decide +kernel
theorem dX5_init_204 : decode cX5_init 204 = .ok (.putfield 83, 3) := by decide +kernel
theorem dX5_init_207 : decode cX5_init 207 = .ok (.aload_n 0, 1) := by decide +kernel
theorem dX5_init_208 : decode cX5_init 208 = .ok (.bipush 8, 2) := by decide +kernel
theorem dX5_init_210 : decode cX5_init 210 = .ok (.newarray .int, 2) := by decide +kernel
theorem dX5_init_212 : decode cX5_init 212 = .ok (.putfield 86, 3) := by decide +kernel
theorem dX5_init_215 : decode cX5_init 215 = .ok (.aload_n 0, 1) := by decide +kernel
theorem dX5_init_216 : decode cX5_init 216 = .ok (.bipush 64, 2) := by decide +kernel
theorem dX5_init_218 : decode cX5_init 218 = .ok (.newarray .int, 2) := by decide +kernel
theorem dX5_init_220 : decode cX5_init 220 = .ok (.putfield 89, 3) := by decide +kernel
theorem dX5_init_223 : decode cX5_init 223 = .ok (.aload_n 0, 1) := by decide +kernel
theorem dX5_init_224 : decode cX5_init 224 = .ok (.bipush 8, 2) := by decide +kernel
theorem dX5_init_226 : decode cX5_init 226 = .ok (.newarray .int, 2) := by decide +kernel
theorem dX5_init_228 : decode cX5_init 228 = .ok (.putfield 92, 3) := by decide +kernel
theorem dX5_init_231 : decode cX5_init 231 = .ok (.iconst 0, 1) := by decide +kernel
theorem dX5_init_232 : decode cX5_init 232 = .ok (.istore_n 1, 1) := by decide +kernel
theorem dX5_init_233 : decode cX5_init 233 = .ok (.iconst 2, 1) := by decide +kernel
theorem dX5_init_234 : decode cX5_init 234 = .ok (.istore_n 2, 1) := by decide +kernel
theorem dX5_init_235 : decode cX5_init 235 = .ok (.iload_n 1, 1) := by decide +kernel
theorem dX5_init_236 : decode cX5_init 236 = .ok (.bipush 64, 2) := by decide +kernel
theorem dX5_init_238 : decode cX5_init 238 = .ok (.if_icmp .ge 85, 3) := by decide +kernel
theorem dX5_init_241 : decode cX5_init 241 = .ok (.iconst 1, 1) := by decide +kernel
theorem dX5_init_242 : decode cX5_init 242 = .ok (.istore_n 3, 1) := by decide +kernel
theorem dX5_init_243 : decode cX5_init 243 = .ok (.iconst 2, 1) := by decide +kernel
theorem dX5_init_244 : decode cX5_init 244 = .ok (.istore 4, 2) := by decide +kernel
theorem dX5_init_246 : decode cX5_init 246 = .ok (.iload 4, 2) := by decide +kernel
theorem dX5_init_248 : decode cX5_init 248 = .ok (.iload_n 2, 1) := by decide +kernel
theorem dX5_init_249 : decode cX5_init 249 = .ok (.if_icmp .ge 26, 3) := by decide +kernel
theorem dX5_init_252 : decode cX5_init 252 = .ok (.iload_n 3, 1) := by decide +kernel
theorem dX5_init_253 : decode cX5_init 253 = .ok (.ifCond .eq 14, 3) := by decide +kernel
theorem dX5_init_256 : decode cX5_init 256 = .ok (.iload_n 2, 1) := by decide +kernel
theorem dX5_init_257 : decode cX5_init 257 = .ok (.iload 4, 2) := by decide +kernel
theorem dX5_init_259 : decode cX5_init 259 = .ok (.irem, 1) := by decide +kernel
theorem dX5_init_260 : decode cX5_init 260 = .ok (.ifCond .le 7, 3) := by decide +kernel
theorem dX5_init_263 : decode cX5_init 263 = .ok (.iconst 1, 1) := by decide +kernel
theorem dX5_init_264 : decode cX5_init 264 = .ok (.goto 4, 3) := by decide +kernel
theorem dX5_init_267 : decode cX5_init 267 = .ok (.iconst 0, 1) := by decide +kernel
end
section
theorem dX5_init_268 : decode cX5_init 268 = .ok (.istore_n 3, 1) := by decide +kernel
theorem dX5_init_269 : decode cX5_init 269 = .ok (.iinc 4 1, 3) := by decide +kernel
theorem dX5_init_272 : decode cX5_init 272 = .ok (.goto (-26), 3) := by decide +kernel
theorem dX5_init_275 : decode cX5_init 275 = .ok (.iload_n 3, 1) := by decide +kernel
theorem dX5_init_276 : decode cX5_init 276 = .ok (.ifCond .ne 6, 3) := by decide +kernel
theorem dX5_init_279 : decode cX5_init 279 = .ok (.goto 38, 3) := by decide +kernel
theorem dX5_init_282 : decode cX5_init 282 = .ok (.iload_n 1, 1) := by decide +kernel
theorem dX5_init_283 : decode cX5_init 283 = .ok (.bipush 8, 2) := by decide +kernel
theorem dX5_init_285 : decode cX5_init 285 = .ok (.if_icmp .ge 16, 3) := by decide +kernel
theorem dX5_init_288 : decode cX5_init 288 = .ok (.aload_n 0, 1) := by decide +kernel
theorem dX5_init_289 : decode cX5_init 289 = .ok (.getfield 74, 3) := by decide +kernel
theorem dX5_init_292 : decode cX5_init 292 = .ok (.iload_n 1, 1) := by decide +kernel
theorem dX5_init_293 : decode cX5_init 293 = .ok (.aload_n 0, 1) := by decide +kernel
theorem dX5_init_294 : decode cX5_init 294 = .ok (.iload_n 2, 1) := by decide +kernel
theorem dX5_init_295 : decode cX5_init 295 = .ok (.iconst 2, 1) := by decide +kernel
theorem dX5_init_296 : decode cX5_init 296 = .ok (.invokevirtual 95, 3) := by decide +kernel
theorem dX5_init_299 : decode cX5_init 299 = .ok (.l2i, 1) := by decide +kernel
theorem dX5_init_300 : decode cX5_init 300 = .ok (.iastore, 1) := by decide +kernel
theorem dX5_init_301 : decode cX5_init 301 = .ok (.aload_n 0, 1) := by decide +kernel
theorem dX5_init_302 : decode cX5_init 302 = .ok (.getfield 77, 3) := by decide +kernel
theorem dX5_init_305 : decode cX5_init 305 = .ok (.iload_n 1, 1) := by decide +kernel
theorem dX5_init_306 : decode cX5_init 306 = .ok (.aload_n 0, 1) := by decide +kernel
theorem dX5_init_307 : decode cX5_init 307 = .ok (.iload_n 2, 1) := by decide +kernel
theorem dX5_init_308 : decode cX5_init 308 = .ok (.iconst 3, 1) := by decide +kernel
theorem dX5_init_309 : decode cX5_init 309 = .ok (.invokevirtual 95, 3) := by decide +kernel
theorem dX5_init_312 : decode cX5_init 312 = .ok (.l2i, 1) := by decide +kernel
theorem dX5_init_313 : decode cX5_init 313 = .ok (.iastore, 1) := by decide +kernel
theorem dX5_init_314 : decode cX5_init 314 = .ok (.iinc 1 1, 3) := by decide +kernel
theorem dX5_init_317 : decode cX5_init 317 = .ok (.iinc 2 1, 3) := by decide +kernel
theorem dX5_init_320 : decode cX5_init 320 = .ok (.goto (-85), 3) := by decide +kernel
theorem dX5_init_323 : decode cX5_init 323 = .ok (.return_, 1) := by decide +kernel
theorem dX5_thrown_0 : decode cX5_thrown 0 = .ok (.aload_n 0, 1) := by decide +kernel
theorem dX5_thrown_1 : decode cX5_thrown 1 = .ok (.getfield 99, 3) := by decide +kernel
theorem dX5_thrown_4 : decode cX5_thrown 4 = .ok (.ireturn, 1) := by decide +kernel
theorem dX5_raise_0 : decode cX5_raise 0 = .ok (.iconst 0, 1) := by decide +kernel
theorem dX5_raise_1 : decode cX5_raise 1 = .ok (.istore 4, 2) := by decide +kernel
theorem dX5_raise_3 : decode cX5_raise 3 = .ok (.iload 4, 2) := by decide +kernel
theorem dX5_raise_5 : decode cX5_raise 5 = .ok (.bipush 12, 2) := by decide +kernel
theorem dX5_raise_7 : decode cX5_raise 7 = .ok (.if_icmp .ge 26, 3) := by decide +kernel
theorem dX5_raise_10 : decode cX5_raise 10 = .ok (.aload_n 0, 1) := by decide +kernel
theorem dX5_raise_11 : decode cX5_raise 11 = .ok (.getfield 80, 3) := by decide +kernel
theorem dX5_raise_14 : decode cX5_raise 14 = .ok (.iload 4, 2) := by decide +kernel
theorem dX5_raise_16 : decode cX5_raise 16 = .ok (.iload 4, 2) := by decide +kernel
theorem dX5_raise_18 : decode cX5_raise 18 = .ok (.ifCond .ne 7, 3) := by decide +kernel
theorem dX5_raise_21 : decode cX5_raise 21 = .ok (.iconst 1, 1) := by decide +kernel
theorem dX5_raise_22 : decode cX5_raise 22 = .ok (.goto 4, 3) := by decide +kernel
theorem dX5_raise_25 : decode cX5_raise 25 = .ok (.iconst 0, 1) := by decide +kernel
theorem dX5_raise_26 : decode cX5_raise 26 = .ok (.iastore, 1) := by decide +kernel
theorem dX5_raise_27 : decode cX5_raise 27 = .ok (.iinc 4 1, 3) := by decide +kernel
theorem dX5_raise_30 : decode cX5_raise 30 = .ok (.goto (-27), 3) := by decide +kernel
theorem dX5_raise_33 : decode cX5_raise 33 = .ok (.iconst 0, 1) := by decide +kernel
theorem dX5_raise_34 : decode cX5_raise 34 = .ok (.istore 4, 2) := by decide +kernel
theorem dX5_raise_36 : decode cX5_raise 36 = .ok (.iload 4, 2) := by decide +kernel
theorem dX5_raise_38 : decode cX5_raise 38 = .ok (.iload_n 3, 1) := by decide +kernel
theorem dX5_raise_39 : decode cX5_raise 39 = .ok (.if_icmp .ge 161, 3) := by decide +kernel
theorem dX5_raise_42 : decode cX5_raise 42 = .ok (.iconst 0, 1) := by decide +kernel
theorem dX5_raise_43 : decode cX5_raise 43 = .ok (.istore 5, 2) := by decide +kernel
theorem dX5_raise_45 : decode cX5_raise 45 = .ok (.iload 5, 2) := by decide +kernel
theorem dX5_raise_47 : decode cX5_raise 47 = .ok (.bipush 12, 2) := by decide +kernel
theorem dX5_raise_49 : decode cX5_raise 49 = .ok (.if_icmp .ge 23, 3) := by decide +kernel
theorem dX5_raise_52 : decode cX5_raise 52 = .ok (.aload_n 0, 1) := by decide +kernel
theorem dX5_raise_53 : decode cX5_raise 53 = .ok (.getfield 83, 3) := by decide +kernel
theorem dX5_raise_56 : decode cX5_raise 56 = .ok (.iload 5, 2) := by decide +kernel
theorem dX5_raise_58 : decode cX5_raise 58 = .ok (.aload_n 0, 1) := by decide +kernel
theorem dX5_raise_59 : decode cX5_raise 59 = .ok (.getfield 80, 3) := by decide +kernel
theorem dX5_raise_62 : decode cX5_raise 62 = .ok (.iload 5, 2) := by decide +kernel
theorem dX5_raise_64 : decode cX5_raise 64 = .ok (.iaload, 1) := by decide +kernel
theorem dX5_raise_65 : decode cX5_raise 65 = .ok (.iastore, 1) := by decide +kernel
theorem dX5_raise_66 : decode cX5_raise 66 = .ok (.iinc 5 1, 3) := by decide +kernel
theorem dX5_raise_69 : decode cX5_raise 69 = .ok (.goto (-24), 3) := by decide +kernel
theorem dX5_raise_72 : decode cX5_raise 72 = .ok (.iconst 0, 1) := by decide +kernel
theorem dX5_raise_73 : decode cX5_raise 73 = .ok (.istore 5, 2) := by decide +kernel
theorem dX5_raise_75 : decode cX5_raise 75 = .ok (.iload 5, 2) := by decide +kernel
theorem dX5_raise_77 : decode cX5_raise 77 = .ok (.bipush 12, 2) := by decide +kernel
theorem dX5_raise_79 : decode cX5_raise 79 = .ok (.if_icmp .ge 17, 3) := by decide +kernel
theorem dX5_raise_82 : decode cX5_raise 82 = .ok (.aload_n 0, 1) := by decide +kernel
theorem dX5_raise_83 : decode cX5_raise 83 = .ok (.getfield 80, 3) := by decide +kernel
theorem dX5_raise_86 : decode cX5_raise 86 = .ok (.iload 5, 2) := by decide +kernel
theorem dX5_raise_88 : decode cX5_raise 88 = .ok (.iconst 0, 1) := by decide +kernel
theorem dX5_raise_89 : decode cX5_raise 89 = .ok (.iastore, 1) := by decide +kernel
theorem dX5_raise_90 : decode cX5_raise 90 = .ok (.iinc 5 1, 3) := by decide +kernel
theorem dX5_raise_93 : decode cX5_raise 93 = .ok (.goto (-18), 3) := by decide +kernel
theorem dX5_raise_96 : decode cX5_raise 96 = .ok (.iconst 0, 1) := by decide +kernel
theorem dX5_raise_97 : decode cX5_raise 97 = .ok (.istore 5, 2) := by decide +kernel
theorem dX5_raise_99 : decode cX5_raise 99 = .ok (.iload 5, 2) := by decide +kernel
theorem dX5_raise_101 : decode cX5_raise 101 = .ok (.iconst 3, 1) := by decide +kernel
theorem dX5_raise_102 : decode cX5_raise 102 = .ok (.if_icmp .ge 92, 3) := by decide +kernel
theorem dX5_raise_105 : decode cX5_raise 105 = .ok (.lconst 0, 1) := by decide +kernel
theorem dX5_raise_106 : decode cX5_raise 106 = .ok (.lstore 6, 2) := by decide +kernel
theorem dX5_raise_108 : decode cX5_raise 108 = .ok (.iconst 0, 1) := by decide +kernel
theorem dX5_raise_109 : decode cX5_raise 109 = .ok (.istore 8, 2) := by decide +kernel
theorem dX5_raise_111 : decode cX5_raise 111 = .ok (.iload 5, 2) := by decide +kernel
theorem dX5_raise_113 : decode cX5_raise 113 = .ok (.iload 8, 2) := by decide +kernel
theorem dX5_raise_115 : decode cX5_raise 115 = .ok (.iadd, 1) := by decide +kernel
theorem dX5_raise_116 : decode cX5_raise 116 = .ok (.bipush 12, 2) := by decide +kernel
theorem dX5_raise_118 : decode cX5_raise 118 = .ok (.if_icmp .ge 70, 3) := by decide +kernel
theorem dX5_raise_121 : decode cX5_raise 121 = .ok (.lload 6, 2) := by decide +kernel
theorem dX5_raise_123 : decode cX5_raise 123 = .ok (.aload_n 0, 1) := by decide +kernel
theorem dX5_raise_124 : decode cX5_raise 124 = .ok (.getfield 80, 3) := by decide +kernel
theorem dX5_raise_127 : decode cX5_raise 127 = .ok (.iload 5, 2) := by decide +kernel
theorem dX5_raise_129 : decode cX5_raise 129 = .ok (.iload 8, 2) := by decide +kernel
theorem dX5_raise_131 : decode cX5_raise 131 = .ok (.iadd, 1) := by decide +kernel
theorem dX5_raise_132 : decode cX5_raise 132 = .ok (.iaload, 1) := by decide +kernel
theorem dX5_raise_133 : decode cX5_raise 133 = .ok (.i2l, 1) := by decide +kernel
theorem dX5_raise_134 : decode cX5_raise 134 = .ok (.ladd, 1) := by decide +kernel
theorem dX5_raise_135 : decode cX5_raise 135 = .ok (.lload_n 1, 1) := by decide +kernel
theorem dX5_raise_136 : decode cX5_raise 136 = .ok (.bipush 16, 2) := by decide +kernel
theorem dX5_raise_138 : decode cX5_raise 138 = .ok (.iload 5, 2) := by decide +kernel
theorem dX5_raise_140 : decode cX5_raise 140 = .ok (.imul, 1) := by decide +kernel
theorem dX5_raise_141 : decode cX5_raise 141 = .ok (.lshr, 1) := by decide +kernel
theorem dX5_raise_142 : decode cX5_raise 142 = .ok (.ldc2_w 103, 3) := by decide +kernel
theorem dX5_raise_145 : decode cX5_raise 145 = .ok (.land, 1) := by decide +kernel
theorem dX5_raise_146 : decode cX5_raise 146 = .ok (.aload_n 0, 1) := by decide +kernel
theorem dX5_raise_147 : decode cX5_raise 147 = .ok (.getfield 83, 3) := by decide +kernel
theorem dX5_raise_150 : decode cX5_raise 150 = .ok (.iload 8, 2) := by decide +kernel
theorem dX5_raise_152 : decode cX5_raise 152 = .ok (.iaload, 1) := by decide +kernel
theorem dX5_raise_153 : decode cX5_raise 153 = .ok (.i2l, 1) := by decide +kernel
theorem dX5_raise_154 : decode cX5_raise 154 = .ok (.lmul, 1) := by decide +kernel
theorem dX5_raise_155 : decode cX5_raise 155 = .ok (.ladd, 1) := by decide +kernel
theorem dX5_raise_156 : decode cX5_raise 156 = .ok (.lstore 6, 2) := by decide +kernel
theorem dX5_raise_158 : decode cX5_raise 158 = .ok (.aload_n 0, 1) := by decide +kernel
theorem dX5_raise_159 : decode cX5_raise 159 = .ok (.getfield 80, 3) := by decide +kernel
theorem dX5_raise_162 : decode cX5_raise 162 = .ok (.iload 5, 2) := by decide +kernel
theorem dX5_raise_164 : decode cX5_raise 164 = .ok (.iload 8, 2) := by decide +kernel
theorem dX5_raise_166 : decode cX5_raise 166 = .ok (.iadd, 1) := by decide +kernel
theorem dX5_raise_167 : decode cX5_raise 167 = .ok (.lload 6, 2) := by decide +kernel
theorem dX5_raise_169 : decode cX5_raise 169 = .ok (.ldc2_w 103, 3) := by decide +kernel
theorem dX5_raise_172 : decode cX5_raise 172 = .ok (.land, 1) := by decide +kernel
theorem dX5_raise_173 : decode cX5_raise 173 = .ok (.l2i, 1) := by decide +kernel
theorem dX5_raise_174 : decode cX5_raise 174 = .ok (.iastore, 1) := by decide +kernel
theorem dX5_raise_175 : decode cX5_raise 175 = .ok (.lload 6, 2) := by decide +kernel
theorem dX5_raise_177 : decode cX5_raise 177 = .ok (.bipush 16, 2) := by decide +kernel
theorem dX5_raise_179 : decode cX5_raise 179 = .ok (.lshr, 1) := by decide +kernel
theorem dX5_raise_180 : decode cX5_raise 180 = .ok (.lstore 6, 2) := by decide +kernel
theorem dX5_raise_182 : decode cX5_raise 182 = .ok (.iinc 8 1, 3) := by decide +kernel
theorem dX5_raise_185 : decode cX5_raise 185 = .ok (.goto (-74), 3) := by decide +kernel
theorem dX5_raise_188 : decode cX5_raise 188 = .ok (.iinc 5 1, 3) := by decide +kernel
theorem dX5_raise_191 : decode cX5_raise 191 = .ok (.goto (-92), 3) := by decide +kernel
theorem dX5_raise_194 : decode cX5_raise 194 = .ok (.iinc 4 1, 3) := by decide +kernel
theorem dX5_raise_197 : decode cX5_raise 197 = .ok (.goto (-161), 3) := by decide +kernel
theorem dX5_raise_200 : decode cX5_raise 200 = .ok (.return_, 1) := by decide +kernel
set_option maxRecDepth 20000 in
theorem ggX5_root_X5_raise : GoodIn wsX5_root wsX5_raise := goodIn_ca (goodIn_r _ [6, 1, 7, 8, 9, 10, 11, 12, 13, 14, 15, 16, 17, 18, 19, 20, 21, 22, 23, 24, 25, 26, 27, 28, 29, 30, 31, 32, 33, 34, 35, 36, 37, 38, 39, 40, 41, 42, 43, 44] (by decide +kernel) (by decide +kernel)) (goodIn_sub (fun _ h => List.mem_cons_of_mem _ (List.mem_append_right _ h)) (by decide +kernel))
set_option maxRecDepth 20000 in
theorem gX5_root_X5_raise : GoodIn wsX5_root (wsV RX5 105 RX5 yX5_raise wsX5_raise) := goodIn_app (goodIn_of _ (by decide +kernel)) ggX5_root_X5_raise
theorem dX5_root_0 : decode cX5_root 0 = .ok (.lconst 0, 1) := by decide +kernel
theorem dX5_root_1 : decode cX5_root 1 = .ok (.lstore_n 3, 1) := by decide +kernel
theorem dX5_root_2 : decode cX5_root 2 = .ok (.bipush 37, 2) := by decide +kernel
theorem dX5_root_4 : decode cX5_root 4 = .ok (.istore 5, 2) := by decide +kernel
theorem dX5_root_6 : decode cX5_root 6 = .ok (.iload 5, 2) := by decide +kernel
theorem dX5_root_8 : decode cX5_root 8 = .ok (.ifCond .lt 130, 3) := by decide +kernel
theorem dX5_root_11 : decode cX5_root 11 = .ok (.aload_n 0, 1) := by decide +kernel
theorem dX5_root_12 : decode cX5_root 12 = .ok (.lload_n 3, 1) := by decide +kernel
theorem dX5_root_13 : decode cX5_root 13 = .ok (.lconst 1, 1) := by decide +kernel
theorem dX5_root_14 : decode cX5_root 14 = .ok (.iload 5, 2) := by decide +kernel
theorem dX5_root_16 : decode cX5_root 16 = .ok (.lshl, 1) := by decide +kernel
theorem dX5_root_17 : decode cX5_root 17 = .ok (.lor, 1) := by decide +kernel
theorem dX5_root_18 : decode cX5_root 18 = .ok (.iload_n 2, 1) := by decide +kernel
theorem dX5_root_19 : decode cX5_root 19 = .ok (.invokevirtual 105, 3) := by decide +kernel
theorem dX5_root_22 : decode cX5_root 22 = .ok (.iconst 0, 1) := by decide +kernel
theorem dX5_root_23 : decode cX5_root 23 = .ok (.istore 6, 2) := by decide +kernel
theorem dX5_root_25 : decode cX5_root 25 = .ok (.iconst 0, 1) := by decide +kernel
theorem dX5_root_26 : decode cX5_root 26 = .ok (.istore 7, 2) := by decide +kernel
theorem dX5_root_28 : decode cX5_root 28 = .ok (.bipush 11, 2) := by decide +kernel
theorem dX5_root_30 : decode cX5_root 30 = .ok (.istore 8, 2) := by decide +kernel
theorem dX5_root_32 : decode cX5_root 32 = .ok (.iload 8, 2) := by decide +kernel
theorem dX5_root_34 : decode cX5_root 34 = .ok (.ifCond .lt 82, 3) := by decide +kernel
theorem dX5_root_37 : decode cX5_root 37 = .ok (.iload 8, 2) := by decide +kernel
theorem dX5_root_39 : decode cX5_root 39 = .ok (.iconst 2, 1) := by decide +kernel
theorem dX5_root_40 : decode cX5_root 40 = .ok (.iload_n 2, 1) := by decide +kernel
theorem dX5_root_41 : decode cX5_root 41 = .ok (.imul, 1) := by decide +kernel
theorem dX5_root_42 : decode cX5_root 42 = .ok (.if_icmp .ne 7, 3) := by decide +kernel
theorem dX5_root_45 : decode cX5_root 45 = .ok (.iload_n 1, 1) := by decide +kernel
theorem dX5_root_46 : decode cX5_root 46 = .ok (.goto 4, 3) := by decide +kernel
theorem dX5_root_49 : decode cX5_root 49 = .ok (.iconst 0, 1) := by decide +kernel
theorem dX5_root_50 : decode cX5_root 50 = .ok (.istore 9, 2) := by decide +kernel
theorem dX5_root_52 : decode cX5_root 52 = .ok (.iload 6, 2) := by decide +kernel
theorem dX5_root_54 : decode cX5_root 54 = .ok (.ifCond .ne 20, 3) := by decide +kernel
theorem dX5_root_57 : decode cX5_root 57 = .ok (.iload 7, 2) := by decide +kernel
theorem dX5_root_59 : decode cX5_root 59 = .ok (.ifCond .ne 19, 3) := by decide +kernel
theorem dX5_root_62 : decode cX5_root 62 = .ok (.aload_n 0, 1) := by decide +kernel
theorem dX5_root_63 : decode cX5_root 63 = .ok (.getfield 80, 3) := by decide +kernel
theorem dX5_root_66 : decode cX5_root 66 = .ok (.iload 8, 2) := by decide +kernel
theorem dX5_root_68 : decode cX5_root 68 = .ok (.iaload, 1) := by decide +kernel
theorem dX5_root_69 : decode cX5_root 69 = .ok (.iload 9, 2) := by decide +kernel
theorem dX5_root_71 : decode cX5_root 71 = .ok (.if_icmp .le 7, 3) := by decide +kernel
theorem dX5_root_74 : decode cX5_root 74 = .ok (.iconst 1, 1) := by decide +kernel
theorem dX5_root_75 : decode cX5_root 75 = .ok (.goto 4, 3) := by decide +kernel
theorem dX5_root_78 : decode cX5_root 78 = .ok (.iconst 0, 1) := by decide +kernel
theorem dX5_root_79 : decode cX5_root 79 = .ok (.istore 6, 2) := by decide +kernel
theorem dX5_root_81 : decode cX5_root 81 = .ok (.iload 7, 2) := by decide +kernel
theorem dX5_root_83 : decode cX5_root 83 = .ok (.ifCond .ne 20, 3) := by decide +kernel
theorem dX5_root_86 : decode cX5_root 86 = .ok (.iload 6, 2) := by decide +kernel
theorem dX5_root_88 : decode cX5_root 88 = .ok (.ifCond .ne 19, 3) := by decide +kernel
theorem dX5_root_91 : decode cX5_root 91 = .ok (.aload_n 0, 1) := by decide +kernel
theorem dX5_root_92 : decode cX5_root 92 = .ok (.getfield 80, 3) := by decide +kernel
theorem dX5_root_95 : decode cX5_root 95 = .ok (.iload 8, 2) := by decide +kernel
theorem dX5_root_97 : decode cX5_root 97 = .ok (.iaload, 1) := by decide +kernel
theorem dX5_root_98 : decode cX5_root 98 = .ok (.iload 9, 2) := by decide +kernel
theorem dX5_root_100 : decode cX5_root 100 = .ok (.if_icmp .ge 7, 3) := by decide +kernel
theorem dX5_root_103 : decode cX5_root 103 = .ok (.iconst 1, 1) := by decide +kernel
theorem dX5_root_104 : decode cX5_root 104 = .ok (.goto 4, 3) := by decide +kernel
theorem dX5_root_107 : decode cX5_root 107 = .ok (.iconst 0, 1) := by decide +kernel
theorem dX5_root_108 : decode cX5_root 108 = .ok (.istore 7, 2) := by decide +kernel
theorem dX5_root_110 : decode cX5_root 110 = .ok (.iinc 8 (-1), 3) := by decide +kernel
theorem dX5_root_113 : decode cX5_root 113 = .ok (.goto (-81), 3) := by decide +kernel
theorem dX5_root_116 : decode cX5_root 116 = .ok (.iload 6, 2) := by decide +kernel
theorem dX5_root_118 : decode cX5_root 118 = .ok (.ifCond .eq 7, 3) := by decide +kernel
theorem dX5_root_121 : decode cX5_root 121 = .ok (.lload_n 3, 1) := by decide +kernel
theorem dX5_root_122 : decode cX5_root 122 = .ok (.goto 9, 3) := by decide +kernel
theorem dX5_root_125 : decode cX5_root 125 = .ok (.lload_n 3, 1) := by decide +kernel
theorem dX5_root_126 : decode cX5_root 126 = .ok (.lconst 1, 1) := by decide +kernel
theorem dX5_root_127 : decode cX5_root 127 = .ok (.iload 5, 2) := by decide +kernel
theorem dX5_root_129 : decode cX5_root 129 = .ok (.lshl, 1) := by decide +kernel
theorem dX5_root_130 : decode cX5_root 130 = .ok (.lor, 1) := by decide +kernel
theorem dX5_root_131 : decode cX5_root 131 = .ok (.lstore_n 3, 1) := by decide +kernel
theorem dX5_root_132 : decode cX5_root 132 = .ok (.iinc 5 (-1), 3) := by decide +kernel
theorem dX5_root_135 : decode cX5_root 135 = .ok (.goto (-129), 3) := by decide +kernel
theorem dX5_root_138 : decode cX5_root 138 = .ok (.lload_n 3, 1) := by decide +kernel
theorem dX5_root_139 : decode cX5_root 139 = .ok (.lreturn, 1) := by decide +kernel
theorem dX5_turned_0 : decode cX5_turned 0 = .ok (.iload_n 0, 1) := by decide +kernel
theorem dX5_turned_1 : decode cX5_turned 1 = .ok (.iload_n 1, 1) := by decide +kernel
theorem dX5_turned_2 : decode cX5_turned 2 = .ok (.iushr, 1) := by decide +kernel
theorem dX5_turned_3 : decode cX5_turned 3 = .ok (.iload_n 0, 1) := by decide +kernel
theorem dX5_turned_4 : decode cX5_turned 4 = .ok (.bipush 32, 2) := by decide +kernel
theorem dX5_turned_6 : decode cX5_turned 6 = .ok (.iload_n 1, 1) := by decide +kernel
theorem dX5_turned_7 : decode cX5_turned 7 = .ok (.isub, 1) := by decide +kernel
theorem dX5_turned_8 : decode cX5_turned 8 = .ok (.ishl, 1) := by decide +kernel
theorem dX5_turned_9 : decode cX5_turned 9 = .ok (.ior, 1) := by decide +kernel
theorem dX5_turned_10 : decode cX5_turned 10 = .ok (.ireturn, 1) := by decide +kernel
theorem dX5_padded_0 : decode cX5_padded 0 = .ok (.aload_n 0, 1) := by decide +kernel
theorem dX5_padded_1 : decode cX5_padded 1 = .ok (.getfield 47, 3) := by decide +kernel
theorem dX5_padded_4 : decode cX5_padded 4 = .ok (.iload_n 1, 1) := by decide +kernel
theorem dX5_padded_5 : decode cX5_padded 5 = .ok (.iaload, 1) := by decide +kernel
theorem dX5_padded_6 : decode cX5_padded 6 = .ok (.istore 4, 2) := by decide +kernel
theorem dX5_padded_8 : decode cX5_padded 8 = .ok (.iload_n 2, 1) := by decide +kernel
theorem dX5_padded_9 : decode cX5_padded 9 = .ok (.iload 4, 2) := by decide +kernel
theorem dX5_padded_11 : decode cX5_padded 11 = .ok (.if_icmp .ge 16, 3) := by decide +kernel
theorem dX5_padded_14 : decode cX5_padded 14 = .ok (.aload_n 0, 1) := by decide +kernel
theorem dX5_padded_15 : decode cX5_padded 15 = .ok (.getfield 65, 3) := by decide +kernel
theorem dX5_padded_18 : decode cX5_padded 18 = .ok (.sipush 256, 3) := by decide +kernel
theorem dX5_padded_21 : decode cX5_padded 21 = .ok (.iload_n 1, 1) := by decide +kernel
theorem dX5_padded_22 : decode cX5_padded 22 = .ok (.imul, 1) := by decide +kernel
theorem dX5_padded_23 : decode cX5_padded 23 = .ok (.iload_n 2, 1) := by decide +kernel
theorem dX5_padded_24 : decode cX5_padded 24 = .ok (.iadd, 1) := by decide +kernel
theorem dX5_padded_25 : decode cX5_padded 25 = .ok (.iaload, 1) := by decide +kernel
theorem dX5_padded_26 : decode cX5_padded 26 = .ok (.ireturn, 1) := by decide +kernel
theorem dX5_padded_27 : decode cX5_padded 27 = .ok (.iload_n 2, 1) := by decide +kernel
theorem dX5_padded_28 : decode cX5_padded 28 = .ok (.iload 4, 2) := by decide +kernel
theorem dX5_padded_30 : decode cX5_padded 30 = .ok (.if_icmp .ne 7, 3) := by decide +kernel
theorem dX5_padded_33 : decode cX5_padded 33 = .ok (.sipush 128, 3) := by decide +kernel
theorem dX5_padded_36 : decode cX5_padded 36 = .ok (.ireturn, 1) := by decide +kernel
theorem dX5_padded_37 : decode cX5_padded 37 = .ok (.iload_n 3, 1) := by decide +kernel
theorem dX5_padded_38 : decode cX5_padded 38 = .ok (.iconst 1, 1) := by decide +kernel
theorem dX5_padded_39 : decode cX5_padded 39 = .ok (.isub, 1) := by decide +kernel
theorem dX5_padded_40 : decode cX5_padded 40 = .ok (.iload_n 2, 1) := by decide +kernel
theorem dX5_padded_41 : decode cX5_padded 41 = .ok (.isub, 1) := by decide +kernel
theorem dX5_padded_42 : decode cX5_padded 42 = .ok (.istore 5, 2) := by decide +kernel
theorem dX5_padded_44 : decode cX5_padded 44 = .ok (.iload 5, 2) := by decide +kernel
theorem dX5_padded_46 : decode cX5_padded 46 = .ok (.iconst 4, 1) := by decide +kernel
theorem dX5_padded_47 : decode cX5_padded 47 = .ok (.if_icmp .ge 21, 3) := by decide +kernel
theorem dX5_padded_50 : decode cX5_padded 50 = .ok (.bipush 8, 2) := by decide +kernel
theorem dX5_padded_52 : decode cX5_padded 52 = .ok (.iload 4, 2) := by decide +kernel
theorem dX5_padded_54 : decode cX5_padded 54 = .ok (.imul, 1) := by decide +kernel
theorem dX5_padded_55 : decode cX5_padded 55 = .ok (.bipush 8, 2) := by decide +kernel
theorem dX5_padded_57 : decode cX5_padded 57 = .ok (.iload 5, 2) := by decide +kernel
theorem dX5_padded_59 : decode cX5_padded 59 = .ok (.imul, 1) := by decide +kernel
theorem dX5_padded_60 : decode cX5_padded 60 = .ok (.ishr, 1) := by decide +kernel
theorem dX5_padded_61 : decode cX5_padded 61 = .ok (.sipush 255, 3) := by decide +kernel
theorem dX5_padded_64 : decode cX5_padded 64 = .ok (.iand, 1) := by decide +kernel
theorem dX5_padded_65 : decode cX5_padded 65 = .ok (.goto 4, 3) := by decide +kernel
theorem dX5_padded_68 : decode cX5_padded 68 = .ok (.iconst 0, 1) := by decide +kernel
theorem dX5_padded_69 : decode cX5_padded 69 = .ok (.ireturn, 1) := by decide +kernel
set_option maxRecDepth 20000 in
theorem ggX5_findDigest_X5_padded : GoodIn wsX5_findDigest wsX5_padded := goodIn_ca (goodIn_r _ [13, 1, 14, 22, 23, 24, 25, 26, 27, 28, 29, 30, 31, 32, 33, 34, 35, 36, 37, 38, 39, 40, 41, 42, 43, 44, 45, 46, 47, 48, 49, 50, 51, 52, 53, 54, 55, 56, 57] (by decide +kernel) (by decide +kernel)) (goodIn_sub (fun _ h => List.mem_cons_of_mem _ (List.mem_append_right _ h)) (by decide +kernel))
set_option maxRecDepth 20000 in
theorem gX5_findDigest_X5_padded : GoodIn wsX5_findDigest (wsV RX5 109 RX5 yX5_padded wsX5_padded) := goodIn_app (goodIn_of _ (by decide +kernel)) ggX5_findDigest_X5_padded
set_option maxRecDepth 20000 in
theorem ggX5_findDigest_X5_turned : GoodIn wsX5_findDigest wsX5_turned := goodIn_r _ [17] (by decide +kernel) (by decide +kernel)
set_option maxRecDepth 20000 in
theorem gX5_findDigest_X5_turned : GoodIn wsX5_findDigest (va_wsS RX5 113 yX5_turned wsX5_turned) := goodIn_app (goodIn_of _ (by decide +kernel)) ggX5_findDigest_X5_turned
set_option maxRecDepth 20000 in
theorem ggX5_findDigest_X5_at : GoodIn wsX5_findDigest wsX5_at := goodIn_ca (goodIn_r _ [21, 5, 22, 23, 24, 25, 26, 27, 28, 29, 30, 31, 32, 33, 34, 35, 36, 37, 38, 39, 40, 41, 42, 43, 44, 45, 46, 47, 48, 49, 50, 51, 52, 53, 54, 55, 56, 57] (by decide +kernel) (by decide +kernel)) (goodIn_sub (fun _ h => List.mem_cons_of_mem _ (List.mem_append_right _ h)) (by decide +kernel))
set_option maxRecDepth 20000 in
theorem gX5_findDigest_X5_at : GoodIn wsX5_findDigest (wsV RX5 117 RX5 yX5_at wsX5_at) := goodIn_app (goodIn_of _ (by decide +kernel)) ggX5_findDigest_X5_at
theorem dX5_findDigest_0 : decode cX5_findDigest 0 = .ok (.bipush 64, 2) := by decide +kernel
theorem dX5_findDigest_2 : decode cX5_findDigest 2 = .ok (.istore_n 2, 1) := by decide +kernel
theorem dX5_findDigest_3 : decode cX5_findDigest 3 = .ok (.iload_n 2, 1) := by decide +kernel
theorem dX5_findDigest_4 : decode cX5_findDigest 4 = .ok (.aload_n 0, 1) := by decide +kernel
theorem dX5_findDigest_5 : decode cX5_findDigest 5 = .ok (.getfield 47, 3) := by decide +kernel
theorem dX5_findDigest_8 : decode cX5_findDigest 8 = .ok (.iload_n 1, 1) := by decide +kernel
theorem dX5_findDigest_9 : decode cX5_findDigest 9 = .ok (.iaload, 1) := by decide +kernel
theorem dX5_findDigest_10 : decode cX5_findDigest 10 = .ok (.bipush 9, 2) := by decide +kernel
theorem dX5_findDigest_12 : decode cX5_findDigest 12 = .ok (.iadd, 1) := by decide +kernel
theorem dX5_findDigest_13 : decode cX5_findDigest 13 = .ok (.if_icmp .ge 11, 3) := by decide +kernel
theorem dX5_findDigest_16 : decode cX5_findDigest 16 = .ok (.iload_n 2, 1) := by decide +kernel
theorem dX5_findDigest_17 : decode cX5_findDigest 17 = .ok (.bipush 64, 2) := by decide +kernel
theorem dX5_findDigest_19 : decode cX5_findDigest 19 = .ok (.iadd, 1) := by decide +kernel
theorem dX5_findDigest_20 : decode cX5_findDigest 20 = .ok (.istore_n 2, 1) := by decide +kernel
theorem dX5_findDigest_21 : decode cX5_findDigest 21 = .ok (.goto (-18), 3) := by decide +kernel
theorem dX5_findDigest_24 : decode cX5_findDigest 24 = .ok (.iconst 0, 1) := by decide +kernel
theorem dX5_findDigest_25 : decode cX5_findDigest 25 = .ok (.istore_n 3, 1) := by decide +kernel
theorem dX5_findDigest_26 : decode cX5_findDigest 26 = .ok (.iload_n 3, 1) := by decide +kernel
theorem dX5_findDigest_27 : decode cX5_findDigest 27 = .ok (.bipush 8, 2) := by decide +kernel
theorem dX5_findDigest_29 : decode cX5_findDigest 29 = .ok (.if_icmp .ge 21, 3) := by decide +kernel
theorem dX5_findDigest_32 : decode cX5_findDigest 32 = .ok (.aload_n 0, 1) := by decide +kernel
theorem dX5_findDigest_33 : decode cX5_findDigest 33 = .ok (.getfield 86, 3) := by decide +kernel
theorem dX5_findDigest_36 : decode cX5_findDigest 36 = .ok (.iload_n 3, 1) := by decide +kernel
theorem dX5_findDigest_37 : decode cX5_findDigest 37 = .ok (.aload_n 0, 1) := by decide +kernel
theorem dX5_findDigest_38 : decode cX5_findDigest 38 = .ok (.getfield 74, 3) := by decide +kernel
theorem dX5_findDigest_41 : decode cX5_findDigest 41 = .ok (.iload_n 3, 1) := by decide +kernel
theorem dX5_findDigest_42 : decode cX5_findDigest 42 = .ok (.iaload, 1) := by decide +kernel
theorem dX5_findDigest_43 : decode cX5_findDigest 43 = .ok (.iastore, 1) := by decide +kernel
theorem dX5_findDigest_44 : decode cX5_findDigest 44 = .ok (.iinc 3 1, 3) := by decide +kernel
theorem dX5_findDigest_47 : decode cX5_findDigest 47 = .ok (.goto (-21), 3) := by decide +kernel
theorem dX5_findDigest_50 : decode cX5_findDigest 50 = .ok (.iconst 0, 1) := by decide +kernel
theorem dX5_findDigest_51 : decode cX5_findDigest 51 = .ok (.istore_n 3, 1) := by decide +kernel
theorem dX5_findDigest_52 : decode cX5_findDigest 52 = .ok (.iload_n 3, 1) := by decide +kernel
theorem dX5_findDigest_53 : decode cX5_findDigest 53 = .ok (.iload_n 2, 1) := by decide +kernel
theorem dX5_findDigest_54 : decode cX5_findDigest 54 = .ok (.if_icmp .ge 473, 3) := by decide +kernel
theorem dX5_findDigest_57 : decode cX5_findDigest 57 = .ok (.iconst 0, 1) := by decide +kernel
theorem dX5_findDigest_58 : decode cX5_findDigest 58 = .ok (.istore 4, 2) := by decide +kernel
theorem dX5_findDigest_60 : decode cX5_findDigest 60 = .ok (.iload 4, 2) := by decide +kernel
theorem dX5_findDigest_62 : decode cX5_findDigest 62 = .ok (.bipush 64, 2) := by decide +kernel
theorem dX5_findDigest_64 : decode cX5_findDigest 64 = .ok (.if_icmp .ge 170, 3) := by decide +kernel
theorem dX5_findDigest_67 : decode cX5_findDigest 67 = .ok (.iload 4, 2) := by decide +kernel
theorem dX5_findDigest_69 : decode cX5_findDigest 69 = .ok (.bipush 16, 2) := by decide +kernel
theorem dX5_findDigest_71 : decode cX5_findDigest 71 = .ok (.if_icmp .ge 63, 3) := by decide +kernel
theorem dX5_findDigest_74 : decode cX5_findDigest 74 = .ok (.aload_n 0, 1) := by decide +kernel
theorem dX5_findDigest_75 : decode cX5_findDigest 75 = .ok (.getfield 89, 3) := by decide +kernel
theorem dX5_findDigest_78 : decode cX5_findDigest 78 = .ok (.iload 4, 2) := by decide +kernel
theorem dX5_findDigest_80 : decode cX5_findDigest 80 = .ok (.iconst 0, 1) := by decide +kernel
theorem dX5_findDigest_81 : decode cX5_findDigest 81 = .ok (.iastore, 1) := by decide +kernel
theorem dX5_findDigest_82 : decode cX5_findDigest 82 = .ok (.iconst 0, 1) := by decide +kernel
theorem dX5_findDigest_83 : decode cX5_findDigest 83 = .ok (.istore 5, 2) := by decide +kernel
theorem dX5_findDigest_85 : decode cX5_findDigest 85 = .ok (.iload 5, 2) := by decide +kernel
theorem dX5_findDigest_87 : decode cX5_findDigest 87 = .ok (.iconst 4, 1) := by decide +kernel
theorem dX5_findDigest_88 : decode cX5_findDigest 88 = .ok (.if_icmp .ge 43, 3) := by decide +kernel
theorem dX5_findDigest_91 : decode cX5_findDigest 91 = .ok (.aload_n 0, 1) := by decide +kernel
theorem dX5_findDigest_92 : decode cX5_findDigest 92 = .ok (.getfield 89, 3) := by decide +kernel
theorem dX5_findDigest_95 : decode cX5_findDigest 95 = .ok (.iload 4, 2) := by decide +kernel
theorem dX5_findDigest_97 : decode cX5_findDigest 97 = .ok (.aload_n 0, 1) := by decide +kernel
theorem dX5_findDigest_98 : decode cX5_findDigest 98 = .ok (.getfield 89, 3) := by decide +kernel
theorem dX5_findDigest_101 : decode cX5_findDigest 101 = .ok (.iload 4, 2) := by decide +kernel
theorem dX5_findDigest_103 : decode cX5_findDigest 103 = .ok (.iaload, 1) := by decide +kernel
theorem dX5_findDigest_104 : decode cX5_findDigest 104 = .ok (.sipush 256, 3) := by decide +kernel
theorem dX5_findDigest_107 : decode cX5_findDigest 107 = .ok (.imul, 1) := by decide +kernel
theorem dX5_findDigest_108 : decode cX5_findDigest 108 = .ok (.aload_n 0, 1) := by decide +kernel
theorem dX5_findDigest_109 : decode cX5_findDigest 109 = .ok (.iload_n 1, 1) := by decide +kernel
theorem dX5_findDigest_110 : decode cX5_findDigest 110 = .ok (.iload_n 3, 1) := by decide +kernel
theorem dX5_findDigest_111 : decode cX5_findDigest 111 = .ok (.iconst 4, 1) := by decide +kernel
theorem dX5_findDigest_112 : decode cX5_findDigest 112 = .ok (.iload 4, 2) := by decide +kernel
theorem dX5_findDigest_114 : decode cX5_findDigest 114 = .ok (.imul, 1) := by decide +kernel
theorem dX5_findDigest_115 : decode cX5_findDigest 115 = .ok (.iadd, 1) := by decide +kernel
theorem dX5_findDigest_116 : decode cX5_findDigest 116 = .ok (.iload 5, 2) := by decide +kernel
theorem dX5_findDigest_118 : decode cX5_findDigest 118 = .ok (.iadd, 1) := by decide +kernel
theorem dX5_findDigest_119 : decode cX5_findDigest 119 = .ok (.iload_n 2, 1) := by decide +kernel
theorem dX5_findDigest_120 : decode cX5_findDigest 120 = .ok (.invokevirtual 109, 3) := by decide +kernel
theorem dX5_findDigest_123 : decode cX5_findDigest 123 = .ok (.iadd, 1) := by decide +kernel
theorem dX5_findDigest_124 : decode cX5_findDigest 124 = .ok (.iastore, 1) := by decide +kernel
theorem dX5_findDigest_125 : decode cX5_findDigest 125 = .ok (.iinc 5 1, 3) := by decide +kernel
theorem dX5_findDigest_128 : decode cX5_findDigest 128 = .ok (.goto (-43), 3) := by decide +kernel
theorem dX5_findDigest_131 : decode cX5_findDigest 131 = .ok (.goto 97, 3) := by decide +kernel
theorem dX5_findDigest_134 : decode cX5_findDigest 134 = .ok (.aload_n 0, 1) := by decide +kernel
theorem dX5_findDigest_135 : decode cX5_findDigest 135 = .ok (.getfield 89, 3) := by decide +kernel
theorem dX5_findDigest_138 : decode cX5_findDigest 138 = .ok (.iload 4, 2) := by decide +kernel
theorem dX5_findDigest_140 : decode cX5_findDigest 140 = .ok (.bipush 15, 2) := by decide +kernel
theorem dX5_findDigest_142 : decode cX5_findDigest 142 = .ok (.isub, 1) := by decide +kernel
theorem dX5_findDigest_143 : decode cX5_findDigest 143 = .ok (.iaload, 1) := by decide +kernel
theorem dX5_findDigest_144 : decode cX5_findDigest 144 = .ok (.istore 5, 2) := by decide +kernel
theorem dX5_findDigest_146 : decode cX5_findDigest 146 = .ok (.aload_n 0, 1) := by decide +kernel
theorem dX5_findDigest_147 : decode cX5_findDigest 147 = .ok (.getfield 89, 3) := by decide +kernel
theorem dX5_findDigest_150 : decode cX5_findDigest 150 = .ok (.iload 4, 2) := by decide +kernel
theorem dX5_findDigest_152 : decode cX5_findDigest 152 = .ok (.iconst 2, 1) := by decide +kernel
theorem dX5_findDigest_153 : decode cX5_findDigest 153 = .ok (.isub, 1) := by decide +kernel
theorem dX5_findDigest_154 : decode cX5_findDigest 154 = .ok (.iaload, 1) := by decide +kernel
theorem dX5_findDigest_155 : decode cX5_findDigest 155 = .ok (.istore 6, 2) := by decide +kernel
theorem dX5_findDigest_157 : decode cX5_findDigest 157 = .ok (.aload_n 0, 1) := by decide +kernel
theorem dX5_findDigest_158 : decode cX5_findDigest 158 = .ok (.getfield 89, 3) := by decide +kernel
theorem dX5_findDigest_161 : decode cX5_findDigest 161 = .ok (.iload 4, 2) := by decide +kernel
theorem dX5_findDigest_163 : decode cX5_findDigest 163 = .ok (.aload_n 0, 1) := by decide +kernel
theorem dX5_findDigest_164 : decode cX5_findDigest 164 = .ok (.getfield 89, 3) := by decide +kernel
theorem dX5_findDigest_167 : decode cX5_findDigest 167 = .ok (.iload 4, 2) := by decide +kernel
theorem dX5_findDigest_169 : decode cX5_findDigest 169 = .ok (.bipush 16, 2) := by decide +kernel
theorem dX5_findDigest_171 : decode cX5_findDigest 171 = .ok (.isub, 1) := by decide +kernel
theorem dX5_findDigest_172 : decode cX5_findDigest 172 = .ok (.iaload, 1) := by decide +kernel
theorem dX5_findDigest_173 : decode cX5_findDigest 173 = .ok (.aload_n 0, 1) := by decide +kernel
theorem dX5_findDigest_174 : decode cX5_findDigest 174 = .ok (.getfield 89, 3) := by decide +kernel
theorem dX5_findDigest_177 : decode cX5_findDigest 177 = .ok (.iload 4, 2) := by decide +kernel
theorem dX5_findDigest_179 : decode cX5_findDigest 179 = .ok (.bipush 7, 2) := by decide +kernel
theorem dX5_findDigest_181 : decode cX5_findDigest 181 = .ok (.isub, 1) := by decide +kernel
theorem dX5_findDigest_182 : decode cX5_findDigest 182 = .ok (.iaload, 1) := by decide +kernel
theorem dX5_findDigest_183 : decode cX5_findDigest 183 = .ok (.iadd, 1) := by decide +kernel
theorem dX5_findDigest_184 : decode cX5_findDigest 184 = .ok (.iload 5, 2) := by decide +kernel
theorem dX5_findDigest_186 : decode cX5_findDigest 186 = .ok (.bipush 7, 2) := by decide +kernel
theorem dX5_findDigest_188 : decode cX5_findDigest 188 = .ok (.invokestatic 113, 3) := by decide +kernel
theorem dX5_findDigest_191 : decode cX5_findDigest 191 = .ok (.iload 5, 2) := by decide +kernel
theorem dX5_findDigest_193 : decode cX5_findDigest 193 = .ok (.bipush 18, 2) := by decide +kernel
theorem dX5_findDigest_195 : decode cX5_findDigest 195 = .ok (.invokestatic 113, 3) := by decide +kernel
theorem dX5_findDigest_198 : decode cX5_findDigest 198 = .ok (.ixor, 1) := by decide +kernel
theorem dX5_findDigest_199 : decode cX5_findDigest 199 = .ok (.iload 5, 2) := by decide +kernel
theorem dX5_findDigest_201 : decode cX5_findDigest 201 = .ok (.iconst 3, 1) := by decide +kernel
theorem dX5_findDigest_202 : decode cX5_findDigest 202 = .ok (.iushr, 1) := by decide +kernel
theorem dX5_findDigest_203 : decode cX5_findDigest 203 = .ok (.ixor, 1) := by decide +kernel
theorem dX5_findDigest_204 : decode cX5_findDigest 204 = .ok (.iadd, 1) := by decide +kernel
theorem dX5_findDigest_205 : decode cX5_findDigest 205 = .ok (.iload 6, 2) := by decide +kernel
theorem dX5_findDigest_207 : decode cX5_findDigest 207 = .ok (.bipush 17, 2) := by decide +kernel
theorem dX5_findDigest_209 : decode cX5_findDigest 209 = .ok (.invokestatic 113, 3) := by decide +kernel
theorem dX5_findDigest_212 : decode cX5_findDigest 212 = .ok (.iload 6, 2) := by decide +kernel
theorem dX5_findDigest_214 : decode cX5_findDigest 214 = .ok (.bipush 19, 2) := by decide +kernel
theorem dX5_findDigest_216 : decode cX5_findDigest 216 = .ok (.invokestatic 113, 3) := by decide +kernel
theorem dX5_findDigest_219 : decode cX5_findDigest 219 = .ok (.ixor, 1) := by decide +kernel
theorem dX5_findDigest_220 : decode cX5_findDigest 220 = .ok (.iload 6, 2) := by decide +kernel
theorem dX5_findDigest_222 : decode cX5_findDigest 222 = .ok (.bipush 10, 2) := by decide +kernel
theorem dX5_findDigest_224 : decode cX5_findDigest 224 = .ok (.iushr, 1) := by decide +kernel
theorem dX5_findDigest_225 : decode cX5_findDigest 225 = .ok (.ixor, 1) := by decide +kernel
theorem dX5_findDigest_226 : decode cX5_findDigest 226 = .ok (.iadd, 1) := by decide +kernel
theorem dX5_findDigest_227 : decode cX5_findDigest 227 = .ok (.iastore, 1) := by decide +kernel
theorem dX5_findDigest_228 : decode cX5_findDigest 228 = .ok (.iinc 4 1, 3) := by decide +kernel
theorem dX5_findDigest_231 : decode cX5_findDigest 231 = .ok (.goto (-171), 3) := by decide +kernel
theorem dX5_findDigest_234 : decode cX5_findDigest 234 = .ok (.iconst 0, 1) := by decide +kernel
theorem dX5_findDigest_235 : decode cX5_findDigest 235 = .ok (.istore 4, 2) := by decide +kernel
theorem dX5_findDigest_237 : decode cX5_findDigest 237 = .ok (.iload 4, 2) := by decide +kernel
theorem dX5_findDigest_239 : decode cX5_findDigest 239 = .ok (.bipush 8, 2) := by decide +kernel
theorem dX5_findDigest_241 : decode cX5_findDigest 241 = .ok (.if_icmp .ge 23, 3) := by decide +kernel
theorem dX5_findDigest_244 : decode cX5_findDigest 244 = .ok (.aload_n 0, 1) := by decide +kernel
theorem dX5_findDigest_245 : decode cX5_findDigest 245 = .ok (.getfield 92, 3) := by decide +kernel
theorem dX5_findDigest_248 : decode cX5_findDigest 248 = .ok (.iload 4, 2) := by decide +kernel
theorem dX5_findDigest_250 : decode cX5_findDigest 250 = .ok (.aload_n 0, 1) := by decide +kernel
theorem dX5_findDigest_251 : decode cX5_findDigest 251 = .ok (.getfield 86, 3) := by decide +kernel
theorem dX5_findDigest_254 : decode cX5_findDigest 254 = .ok (.iload 4, 2) := by decide +kernel
theorem dX5_findDigest_256 : decode cX5_findDigest 256 = .ok (.iaload, 1) := by decide +kernel
theorem dX5_findDigest_257 : decode cX5_findDigest 257 = .ok (.iastore, 1) := by decide +kernel
theorem dX5_findDigest_258 : decode cX5_findDigest 258 = .ok (.iinc 4 1, 3) := by decide +kernel
theorem dX5_findDigest_261 : decode cX5_findDigest 261 = .ok (.goto (-24), 3) := by decide +kernel
theorem dX5_findDigest_264 : decode cX5_findDigest 264 = .ok (.iconst 0, 1) := by decide +kernel
theorem dX5_findDigest_265 : decode cX5_findDigest 265 = .ok (.istore 4, 2) := by decide +kernel
theorem dX5_findDigest_267 : decode cX5_findDigest 267 = .ok (.iload 4, 2) := by decide +kernel
theorem dX5_findDigest_269 : decode cX5_findDigest 269 = .ok (.bipush 64, 2) := by decide +kernel
theorem dX5_findDigest_271 : decode cX5_findDigest 271 = .ok (.if_icmp .ge 212, 3) := by decide +kernel
theorem dX5_findDigest_274 : decode cX5_findDigest 274 = .ok (.aload_n 0, 1) := by decide +kernel
theorem dX5_findDigest_275 : decode cX5_findDigest 275 = .ok (.iconst 4, 1) := by decide +kernel
theorem dX5_findDigest_276 : decode cX5_findDigest 276 = .ok (.iload 4, 2) := by decide +kernel
theorem dX5_findDigest_278 : decode cX5_findDigest 278 = .ok (.invokevirtual 117, 3) := by decide +kernel
theorem dX5_findDigest_281 : decode cX5_findDigest 281 = .ok (.istore 5, 2) := by decide +kernel
theorem dX5_findDigest_283 : decode cX5_findDigest 283 = .ok (.aload_n 0, 1) := by decide +kernel
theorem dX5_findDigest_284 : decode cX5_findDigest 284 = .ok (.iconst 0, 1) := by decide +kernel
theorem dX5_findDigest_285 : decode cX5_findDigest 285 = .ok (.iload 4, 2) := by decide +kernel
theorem dX5_findDigest_287 : decode cX5_findDigest 287 = .ok (.invokevirtual 117, 3) := by decide +kernel
theorem dX5_findDigest_290 : decode cX5_findDigest 290 = .ok (.istore 6, 2) := by decide +kernel
theorem dX5_findDigest_292 : decode cX5_findDigest 292 = .ok (.iload 5, 2) := by decide +kernel
theorem dX5_findDigest_294 : decode cX5_findDigest 294 = .ok (.aload_n 0, 1) := by decide +kernel
theorem dX5_findDigest_295 : decode cX5_findDigest 295 = .ok (.iconst 5, 1) := by decide +kernel
theorem dX5_findDigest_296 : decode cX5_findDigest 296 = .ok (.iload 4, 2) := by decide +kernel
theorem dX5_findDigest_298 : decode cX5_findDigest 298 = .ok (.invokevirtual 117, 3) := by decide +kernel
theorem dX5_findDigest_301 : decode cX5_findDigest 301 = .ok (.iand, 1) := by decide +kernel
theorem dX5_findDigest_302 : decode cX5_findDigest 302 = .ok (.iload 5, 2) := by decide +kernel
theorem dX5_findDigest_304 : decode cX5_findDigest 304 = .ok (.iconst (-1), 1) := by decide +kernel
theorem dX5_findDigest_305 : decode cX5_findDigest 305 = .ok (.ixor, 1) := by decide +kernel
theorem dX5_findDigest_306 : decode cX5_findDigest 306 = .ok (.aload_n 0, 1) := by decide +kernel
theorem dX5_findDigest_307 : decode cX5_findDigest 307 = .ok (.bipush 6, 2) := by decide +kernel
theorem dX5_findDigest_309 : decode cX5_findDigest 309 = .ok (.iload 4, 2) := by decide +kernel
theorem dX5_findDigest_311 : decode cX5_findDigest 311 = .ok (.invokevirtual 117, 3) := by decide +kernel
theorem dX5_findDigest_314 : decode cX5_findDigest 314 = .ok (.iand, 1) := by decide +kernel
theorem dX5_findDigest_315 : decode cX5_findDigest 315 = .ok (.ior, 1) := by decide +kernel
theorem dX5_findDigest_316 : decode cX5_findDigest 316 = .ok (.istore 7, 2) := by decide +kernel
theorem dX5_findDigest_318 : decode cX5_findDigest 318 = .ok (.iload 6, 2) := by decide +kernel
theorem dX5_findDigest_320 : decode cX5_findDigest 320 = .ok (.aload_n 0, 1) := by decide +kernel
theorem dX5_findDigest_321 : decode cX5_findDigest 321 = .ok (.iconst 1, 1) := by decide +kernel
theorem dX5_findDigest_322 : decode cX5_findDigest 322 = .ok (.iload 4, 2) := by decide +kernel
theorem dX5_findDigest_324 : decode cX5_findDigest 324 = .ok (.invokevirtual 117, 3) := by decide +kernel
theorem dX5_findDigest_327 : decode cX5_findDigest 327 = .ok (.iand, 1) := by decide +kernel
theorem dX5_findDigest_328 : decode cX5_findDigest 328 = .ok (.iload 6, 2) := by decide +kernel
theorem dX5_findDigest_330 : decode cX5_findDigest 330 = .ok (.aload_n 0, 1) := by decide +kernel
theorem dX5_findDigest_331 : decode cX5_findDigest 331 = .ok (.iconst 2, 1) := by decide +kernel
theorem dX5_findDigest_332 : decode cX5_findDigest 332 = .ok (.iload 4, 2) := by decide +kernel
theorem dX5_findDigest_334 : decode cX5_findDigest 334 = .ok (.invokevirtual 117, 3) := by decide +kernel
theorem dX5_findDigest_337 : decode cX5_findDigest 337 = .ok (.iand, 1) := by decide +kernel
theorem dX5_findDigest_338 : decode cX5_findDigest 338 = .ok (.ior, 1) := by decide +kernel
theorem dX5_findDigest_339 : decode cX5_findDigest 339 = .ok (.aload_n 0, 1) := by decide +kernel
theorem dX5_findDigest_340 : decode cX5_findDigest 340 = .ok (.iconst 1, 1) := by decide +kernel
theorem dX5_findDigest_341 : decode cX5_findDigest 341 = .ok (.iload 4, 2) := by decide +kernel
theorem dX5_findDigest_343 : decode cX5_findDigest 343 = .ok (.invokevirtual 117, 3) := by decide +kernel
theorem dX5_findDigest_346 : decode cX5_findDigest 346 = .ok (.aload_n 0, 1) := by decide +kernel
theorem dX5_findDigest_347 : decode cX5_findDigest 347 = .ok (.iconst 2, 1) := by decide +kernel
theorem dX5_findDigest_348 : decode cX5_findDigest 348 = .ok (.iload 4, 2) := by decide +kernel
theorem dX5_findDigest_350 : decode cX5_findDigest 350 = .ok (.invokevirtual 117, 3) := by decide +kernel
theorem dX5_findDigest_353 : decode cX5_findDigest 353 = .ok (.iand, 1) := by decide +kernel
theorem dX5_findDigest_354 : decode cX5_findDigest 354 = .ok (.ior, 1) := by decide +kernel
theorem dX5_findDigest_355 : decode cX5_findDigest 355 = .ok (.istore 8, 2) := by decide +kernel
theorem dX5_findDigest_357 : decode cX5_findDigest 357 = .ok (.aload_n 0, 1) := by decide +kernel
theorem dX5_findDigest_358 : decode cX5_findDigest 358 = .ok (.bipush 7, 2) := by decide +kernel
theorem dX5_findDigest_360 : decode cX5_findDigest 360 = .ok (.iload 4, 2) := by decide +kernel
theorem dX5_findDigest_362 : decode cX5_findDigest 362 = .ok (.invokevirtual 117, 3) := by decide +kernel
theorem dX5_findDigest_365 : decode cX5_findDigest 365 = .ok (.iload 5, 2) := by decide +kernel
theorem dX5_findDigest_367 : decode cX5_findDigest 367 = .ok (.bipush 6, 2) := by decide +kernel
theorem dX5_findDigest_369 : decode cX5_findDigest 369 = .ok (.invokestatic 113, 3) := by decide +kernel
theorem dX5_findDigest_372 : decode cX5_findDigest 372 = .ok (.iload 5, 2) := by decide +kernel
theorem dX5_findDigest_374 : decode cX5_findDigest 374 = .ok (.bipush 11, 2) := by decide +kernel
theorem dX5_findDigest_376 : decode cX5_findDigest 376 = .ok (.invokestatic 113, 3) := by decide +kernel
theorem dX5_findDigest_379 : decode cX5_findDigest 379 = .ok (.ixor, 1) := by decide +kernel
theorem dX5_findDigest_380 : decode cX5_findDigest 380 = .ok (.iload 5, 2) := by decide +kernel
theorem dX5_findDigest_382 : decode cX5_findDigest 382 = .ok (.bipush 25, 2) := by decide +kernel
theorem dX5_findDigest_384 : decode cX5_findDigest 384 = .ok (.invokestatic 113, 3) := by decide +kernel
theorem dX5_findDigest_387 : decode cX5_findDigest 387 = .ok (.ixor, 1) := by decide +kernel
theorem dX5_findDigest_388 : decode cX5_findDigest 388 = .ok (.iadd, 1) := by decide +kernel
theorem dX5_findDigest_389 : decode cX5_findDigest 389 = .ok (.iload 7, 2) := by decide +kernel
theorem dX5_findDigest_391 : decode cX5_findDigest 391 = .ok (.iadd, 1) := by decide +kernel
theorem dX5_findDigest_392 : decode cX5_findDigest 392 = .ok (.aload_n 0, 1) := by decide +kernel
theorem dX5_findDigest_393 : decode cX5_findDigest 393 = .ok (.getfield 77, 3) := by decide +kernel
theorem dX5_findDigest_396 : decode cX5_findDigest 396 = .ok (.iload 4, 2) := by decide +kernel
theorem dX5_findDigest_398 : decode cX5_findDigest 398 = .ok (.iaload, 1) := by decide +kernel
theorem dX5_findDigest_399 : decode cX5_findDigest 399 = .ok (.iadd, 1) := by decide +kernel
theorem dX5_findDigest_400 : decode cX5_findDigest 400 = .ok (.aload_n 0, 1) := by decide +kernel
theorem dX5_findDigest_401 : decode cX5_findDigest 401 = .ok (.getfield 89, 3) := by decide +kernel
theorem dX5_findDigest_404 : decode cX5_findDigest 404 = .ok (.iload 4, 2) := by decide +kernel
theorem dX5_findDigest_406 : decode cX5_findDigest 406 = .ok (.iaload, 1) := by decide +kernel
theorem dX5_findDigest_407 : decode cX5_findDigest 407 = .ok (.iadd, 1) := by decide +kernel
theorem dX5_findDigest_408 : decode cX5_findDigest 408 = .ok (.istore 9, 2) := by decide +kernel
theorem dX5_findDigest_410 : decode cX5_findDigest 410 = .ok (.iload 6, 2) := by decide +kernel
theorem dX5_findDigest_412 : decode cX5_findDigest 412 = .ok (.iconst 2, 1) := by decide +kernel
theorem dX5_findDigest_413 : decode cX5_findDigest 413 = .ok (.invokestatic 113, 3) := by decide +kernel
theorem dX5_findDigest_416 : decode cX5_findDigest 416 = .ok (.iload 6, 2) := by decide +kernel
theorem dX5_findDigest_418 : decode cX5_findDigest 418 = .ok (.bipush 13, 2) := by decide +kernel
theorem dX5_findDigest_420 : decode cX5_findDigest 420 = .ok (.invokestatic 113, 3) := by decide +kernel
theorem dX5_findDigest_423 : decode cX5_findDigest 423 = .ok (.ixor, 1) := by decide +kernel
theorem dX5_findDigest_424 : decode cX5_findDigest 424 = .ok (.iload 6, 2) := by decide +kernel
theorem dX5_findDigest_426 : decode cX5_findDigest 426 = .ok (.bipush 22, 2) := by decide +kernel
theorem dX5_findDigest_428 : decode cX5_findDigest 428 = .ok (.invokestatic 113, 3) := by decide +kernel
theorem dX5_findDigest_431 : decode cX5_findDigest 431 = .ok (.ixor, 1) := by decide +kernel
theorem dX5_findDigest_432 : decode cX5_findDigest 432 = .ok (.iload 8, 2) := by decide +kernel
theorem dX5_findDigest_434 : decode cX5_findDigest 434 = .ok (.iadd, 1) := by decide +kernel
theorem dX5_findDigest_435 : decode cX5_findDigest 435 = .ok (.istore 10, 2) := by decide +kernel
theorem dX5_findDigest_437 : decode cX5_findDigest 437 = .ok (.aload_n 0, 1) := by decide +kernel
theorem dX5_findDigest_438 : decode cX5_findDigest 438 = .ok (.getfield 92, 3) := by decide +kernel
theorem dX5_findDigest_441 : decode cX5_findDigest 441 = .ok (.iconst 3, 1) := by decide +kernel
theorem dX5_findDigest_442 : decode cX5_findDigest 442 = .ok (.iload 4, 2) := by decide +kernel
theorem dX5_findDigest_444 : decode cX5_findDigest 444 = .ok (.isub, 1) := by decide +kernel
theorem dX5_findDigest_445 : decode cX5_findDigest 445 = .ok (.bipush 7, 2) := by decide +kernel
theorem dX5_findDigest_447 : decode cX5_findDigest 447 = .ok (.iand, 1) := by decide +kernel
theorem dX5_findDigest_448 : decode cX5_findDigest 448 = .ok (.aload_n 0, 1) := by decide +kernel
theorem dX5_findDigest_449 : decode cX5_findDigest 449 = .ok (.iconst 3, 1) := by decide +kernel
theorem dX5_findDigest_450 : decode cX5_findDigest 450 = .ok (.iload 4, 2) := by decide +kernel
theorem dX5_findDigest_452 : decode cX5_findDigest 452 = .ok (.invokevirtual 117, 3) := by decide +kernel
theorem dX5_findDigest_455 : decode cX5_findDigest 455 = .ok (.iload 9, 2) := by decide +kernel
theorem dX5_findDigest_457 : decode cX5_findDigest 457 = .ok (.iadd, 1) := by decide +kernel
theorem dX5_findDigest_458 : decode cX5_findDigest 458 = .ok (.iastore, 1) := by decide +kernel
theorem dX5_findDigest_459 : decode cX5_findDigest 459 = .ok (.aload_n 0, 1) := by decide +kernel
theorem dX5_findDigest_460 : decode cX5_findDigest 460 = .ok (.getfield 92, 3) := by decide +kernel
theorem dX5_findDigest_463 : decode cX5_findDigest 463 = .ok (.bipush 7, 2) := by decide +kernel
theorem dX5_findDigest_465 : decode cX5_findDigest 465 = .ok (.iload 4, 2) := by decide +kernel
theorem dX5_findDigest_467 : decode cX5_findDigest 467 = .ok (.isub, 1) := by decide +kernel
theorem dX5_findDigest_468 : decode cX5_findDigest 468 = .ok (.bipush 7, 2) := by decide +kernel
theorem dX5_findDigest_470 : decode cX5_findDigest 470 = .ok (.iand, 1) := by decide +kernel
theorem dX5_findDigest_471 : decode cX5_findDigest 471 = .ok (.iload 9, 2) := by decide +kernel
theorem dX5_findDigest_473 : decode cX5_findDigest 473 = .ok (.iload 10, 2) := by decide +kernel
theorem dX5_findDigest_475 : decode cX5_findDigest 475 = .ok (.iadd, 1) := by decide +kernel
theorem dX5_findDigest_476 : decode cX5_findDigest 476 = .ok (.iastore, 1) := by decide +kernel
theorem dX5_findDigest_477 : decode cX5_findDigest 477 = .ok (.iinc 4 1, 3) := by decide +kernel
theorem dX5_findDigest_480 : decode cX5_findDigest 480 = .ok (.goto (-213), 3) := by decide +kernel
theorem dX5_findDigest_483 : decode cX5_findDigest 483 = .ok (.iconst 0, 1) := by decide +kernel
theorem dX5_findDigest_484 : decode cX5_findDigest 484 = .ok (.istore 4, 2) := by decide +kernel
theorem dX5_findDigest_486 : decode cX5_findDigest 486 = .ok (.iload 4, 2) := by decide +kernel
theorem dX5_findDigest_488 : decode cX5_findDigest 488 = .ok (.bipush 8, 2) := by decide +kernel
theorem dX5_findDigest_490 : decode cX5_findDigest 490 = .ok (.if_icmp .ge 31, 3) := by decide +kernel
theorem dX5_findDigest_493 : decode cX5_findDigest 493 = .ok (.aload_n 0, 1) := by decide +kernel
theorem dX5_findDigest_494 : decode cX5_findDigest 494 = .ok (.getfield 86, 3) := by decide +kernel
theorem dX5_findDigest_497 : decode cX5_findDigest 497 = .ok (.iload 4, 2) := by decide +kernel
theorem dX5_findDigest_499 : decode cX5_findDigest 499 = .ok (.aload_n 0, 1) := by decide +kernel
theorem dX5_findDigest_500 : decode cX5_findDigest 500 = .ok (.getfield 86, 3) := by decide +kernel
theorem dX5_findDigest_503 : decode cX5_findDigest 503 = .ok (.iload 4, 2) := by decide +kernel
theorem dX5_findDigest_505 : decode cX5_findDigest 505 = .ok (.iaload, 1) := by decide +kernel
theorem dX5_findDigest_506 : decode cX5_findDigest 506 = .ok (.aload_n 0, 1) := by decide +kernel
theorem dX5_findDigest_507 : decode cX5_findDigest 507 = .ok (.getfield 92, 3) := by decide +kernel
theorem dX5_findDigest_510 : decode cX5_findDigest 510 = .ok (.iload 4, 2) := by decide +kernel
theorem dX5_findDigest_512 : decode cX5_findDigest 512 = .ok (.iaload, 1) := by decide +kernel
theorem dX5_findDigest_513 : decode cX5_findDigest 513 = .ok (.iadd, 1) := by decide +kernel
theorem dX5_findDigest_514 : decode cX5_findDigest 514 = .ok (.iastore, 1) := by decide +kernel
theorem dX5_findDigest_515 : decode cX5_findDigest 515 = .ok (.iinc 4 1, 3) := by decide +kernel
theorem dX5_findDigest_518 : decode cX5_findDigest 518 = .ok (.goto (-32), 3) := by decide +kernel
theorem dX5_findDigest_521 : decode cX5_findDigest 521 = .ok (.iinc 3 64, 3) := by decide +kernel
theorem dX5_findDigest_524 : decode cX5_findDigest 524 = .ok (.goto (-472), 3) := by decide +kernel
theorem dX5_findDigest_527 : decode cX5_findDigest 527 = .ok (.iconst 0, 1) := by decide +kernel
theorem dX5_findDigest_528 : decode cX5_findDigest 528 = .ok (.istore_n 3, 1) := by decide +kernel
theorem dX5_findDigest_529 : decode cX5_findDigest 529 = .ok (.iload_n 3, 1) := by decide +kernel
theorem dX5_findDigest_530 : decode cX5_findDigest 530 = .ok (.bipush 32, 2) := by decide +kernel
theorem dX5_findDigest_532 : decode cX5_findDigest 532 = .ok (.if_icmp .ge 36, 3) := by decide +kernel
theorem dX5_findDigest_535 : decode cX5_findDigest 535 = .ok (.aload_n 0, 1) := by decide +kernel
theorem dX5_findDigest_536 : decode cX5_findDigest 536 = .ok (.getfield 71, 3) := by decide +kernel
theorem dX5_findDigest_539 : decode cX5_findDigest 539 = .ok (.iload_n 3, 1) := by decide +kernel
theorem dX5_findDigest_540 : decode cX5_findDigest 540 = .ok (.aload_n 0, 1) := by decide +kernel
theorem dX5_findDigest_541 : decode cX5_findDigest 541 = .ok (.getfield 86, 3) := by decide +kernel
theorem dX5_findDigest_544 : decode cX5_findDigest 544 = .ok (.iload_n 3, 1) := by decide +kernel
theorem dX5_findDigest_545 : decode cX5_findDigest 545 = .ok (.iconst 4, 1) := by decide +kernel
theorem dX5_findDigest_546 : decode cX5_findDigest 546 = .ok (.idiv, 1) := by decide +kernel
theorem dX5_findDigest_547 : decode cX5_findDigest 547 = .ok (.iaload, 1) := by decide +kernel
theorem dX5_findDigest_548 : decode cX5_findDigest 548 = .ok (.bipush 8, 2) := by decide +kernel
theorem dX5_findDigest_550 : decode cX5_findDigest 550 = .ok (.iconst 3, 1) := by decide +kernel
theorem dX5_findDigest_551 : decode cX5_findDigest 551 = .ok (.iload_n 3, 1) := by decide +kernel
theorem dX5_findDigest_552 : decode cX5_findDigest 552 = .ok (.iconst 4, 1) := by decide +kernel
theorem dX5_findDigest_553 : decode cX5_findDigest 553 = .ok (.irem, 1) := by decide +kernel
theorem dX5_findDigest_554 : decode cX5_findDigest 554 = .ok (.isub, 1) := by decide +kernel
theorem dX5_findDigest_555 : decode cX5_findDigest 555 = .ok (.imul, 1) := by decide +kernel
theorem dX5_findDigest_556 : decode cX5_findDigest 556 = .ok (.ishr, 1) := by decide +kernel
theorem dX5_findDigest_557 : decode cX5_findDigest 557 = .ok (.sipush 255, 3) := by decide +kernel
theorem dX5_findDigest_560 : decode cX5_findDigest 560 = .ok (.iand, 1) := by decide +kernel
theorem dX5_findDigest_561 : decode cX5_findDigest 561 = .ok (.iastore, 1) := by decide +kernel
theorem dX5_findDigest_562 : decode cX5_findDigest 562 = .ok (.iinc 3 1, 3) := by decide +kernel
theorem dX5_findDigest_565 : decode cX5_findDigest 565 = .ok (.goto (-36), 3) := by decide +kernel
theorem dX5_findDigest_568 : decode cX5_findDigest 568 = .ok (.aload_n 0, 1) := by decide +kernel
theorem dX5_findDigest_569 : decode cX5_findDigest 569 = .ok (.bipush 32, 2) := by decide +kernel
theorem dX5_findDigest_571 : decode cX5_findDigest 571 = .ok (.putfield 120, 3) := by decide +kernel
theorem dX5_findDigest_574 : decode cX5_findDigest 574 = .ok (.return_, 1) := by decide +kernel
theorem dX5_at_0 : decode cX5_at 0 = .ok (.aload_n 0, 1) := by decide +kernel
theorem dX5_at_1 : decode cX5_at 1 = .ok (.getfield 92, 3) := by decide +kernel
theorem dX5_at_4 : decode cX5_at 4 = .ok (.iload_n 1, 1) := by decide +kernel
theorem dX5_at_5 : decode cX5_at 5 = .ok (.iload_n 2, 1) := by decide +kernel
theorem dX5_at_6 : decode cX5_at 6 = .ok (.isub, 1) := by decide +kernel
theorem dX5_at_7 : decode cX5_at 7 = .ok (.bipush 7, 2) := by decide +kernel
theorem dX5_at_9 : decode cX5_at 9 = .ok (.iand, 1) := by decide +kernel
end
section
theorem dX5_at_10 : decode cX5_at 10 = .ok (.iaload, 1) := by decide +kernel
theorem dX5_at_11 : decode cX5_at 11 = .ok (.ireturn, 1) := by decide +kernel
theorem dX5_none_0 : decode cX5_none 0 = .ok (.aload_n 0, 1) := by decide +kernel
theorem dX5_none_1 : decode cX5_none 1 = .ok (.iconst 0, 1) := by decide +kernel
theorem dX5_none_2 : decode cX5_none 2 = .ok (.putfield 99, 3) := by decide +kernel
theorem dX5_none_5 : decode cX5_none 5 = .ok (.iload_n 1, 1) := by decide +kernel
theorem dX5_none_6 : decode cX5_none 6 = .ok (.iconst 1, 1) := by decide +kernel
theorem dX5_none_7 : decode cX5_none 7 = .ok (.if_icmp .lt 11, 3) := by decide +kernel
theorem dX5_none_10 : decode cX5_none 10 = .ok (.iload_n 1, 1) := by decide +kernel
theorem dX5_none_11 : decode cX5_none 11 = .ok (.aload_n 0, 1) := by decide +kernel
theorem dX5_none_12 : decode cX5_none 12 = .ok (.getfield 123, 3) := by decide +kernel
theorem dX5_none_15 : decode cX5_none 15 = .ok (.if_icmp .le 7, 3) := by decide +kernel
theorem dX5_none_18 : decode cX5_none 18 = .ok (.iconst 1, 1) := by decide +kernel
theorem dX5_none_19 : decode cX5_none 19 = .ok (.goto 4, 3) := by decide +kernel
theorem dX5_none_22 : decode cX5_none 22 = .ok (.iconst 0, 1) := by decide +kernel
theorem dX5_none_23 : decode cX5_none 23 = .ok (.ireturn, 1) := by decide +kernel
theorem dX5_controller_0 : decode cX5_controller 0 = .ok (.aload_n 0, 1) := by decide +kernel
theorem dX5_controller_1 : decode cX5_controller 1 = .ok (.iconst 0, 1) := by decide +kernel
theorem dX5_controller_2 : decode cX5_controller 2 = .ok (.putfield 99, 3) := by decide +kernel
theorem dX5_controller_5 : decode cX5_controller 5 = .ok (.iload_n 1, 1) := by decide +kernel
theorem dX5_controller_6 : decode cX5_controller 6 = .ok (.iconst 1, 1) := by decide +kernel
theorem dX5_controller_7 : decode cX5_controller 7 = .ok (.if_icmp .lt 9, 3) := by decide +kernel
theorem dX5_controller_10 : decode cX5_controller 10 = .ok (.iload_n 1, 1) := by decide +kernel
theorem dX5_controller_11 : decode cX5_controller 11 = .ok (.bipush 127, 2) := by decide +kernel
theorem dX5_controller_13 : decode cX5_controller 13 = .ok (.if_icmp .le 6, 3) := by decide +kernel
theorem dX5_controller_16 : decode cX5_controller 16 = .ok (.bipush (-2), 2) := by decide +kernel
theorem dX5_controller_18 : decode cX5_controller 18 = .ok (.ireturn, 1) := by decide +kernel
theorem dX5_controller_19 : decode cX5_controller 19 = .ok (.aload_n 0, 1) := by decide +kernel
theorem dX5_controller_20 : decode cX5_controller 20 = .ok (.getfield 123, 3) := by decide +kernel
theorem dX5_controller_23 : decode cX5_controller 23 = .ok (.bipush 8, 2) := by decide +kernel
theorem dX5_controller_25 : decode cX5_controller 25 = .ok (.if_icmp .ne 6, 3) := by decide +kernel
theorem dX5_controller_28 : decode cX5_controller 28 = .ok (.bipush (-4), 2) := by decide +kernel
theorem dX5_controller_30 : decode cX5_controller 30 = .ok (.ireturn, 1) := by decide +kernel
theorem dX5_controller_31 : decode cX5_controller 31 = .ok (.aload_n 0, 1) := by decide +kernel
theorem dX5_controller_32 : decode cX5_controller 32 = .ok (.dup, 1) := by decide +kernel
theorem dX5_controller_33 : decode cX5_controller 33 = .ok (.getfield 123, 3) := by decide +kernel
theorem dX5_controller_36 : decode cX5_controller 36 = .ok (.iconst 1, 1) := by decide +kernel
theorem dX5_controller_37 : decode cX5_controller 37 = .ok (.iadd, 1) := by decide +kernel
theorem dX5_controller_38 : decode cX5_controller 38 = .ok (.putfield 123, 3) := by decide +kernel
theorem dX5_controller_41 : decode cX5_controller 41 = .ok (.aload_n 0, 1) := by decide +kernel
theorem dX5_controller_42 : decode cX5_controller 42 = .ok (.getfield 7, 3) := by decide +kernel
theorem dX5_controller_45 : decode cX5_controller 45 = .ok (.aload_n 0, 1) := by decide +kernel
theorem dX5_controller_46 : decode cX5_controller 46 = .ok (.getfield 123, 3) := by decide +kernel
theorem dX5_controller_49 : decode cX5_controller 49 = .ok (.iload_n 1, 1) := by decide +kernel
theorem dX5_controller_50 : decode cX5_controller 50 = .ok (.iastore, 1) := by decide +kernel
theorem dX5_controller_51 : decode cX5_controller 51 = .ok (.aload_n 0, 1) := by decide +kernel
theorem dX5_controller_52 : decode cX5_controller 52 = .ok (.getfield 29, 3) := by decide +kernel
theorem dX5_controller_55 : decode cX5_controller 55 = .ok (.aload_n 0, 1) := by decide +kernel
theorem dX5_controller_56 : decode cX5_controller 56 = .ok (.getfield 123, 3) := by decide +kernel
theorem dX5_controller_59 : decode cX5_controller 59 = .ok (.iconst (-1), 1) := by decide +kernel
theorem dX5_controller_60 : decode cX5_controller 60 = .ok (.iastore, 1) := by decide +kernel
theorem dX5_controller_61 : decode cX5_controller 61 = .ok (.aload_n 0, 1) := by decide +kernel
theorem dX5_controller_62 : decode cX5_controller 62 = .ok (.getfield 123, 3) := by decide +kernel
theorem dX5_controller_65 : decode cX5_controller 65 = .ok (.ireturn, 1) := by decide +kernel
theorem dX5_octet_0 : decode cX5_octet 0 = .ok (.aload_n 0, 1) := by decide +kernel
theorem dX5_octet_1 : decode cX5_octet 1 = .ok (.iconst 0, 1) := by decide +kernel
theorem dX5_octet_2 : decode cX5_octet 2 = .ok (.putfield 99, 3) := by decide +kernel
theorem dX5_octet_5 : decode cX5_octet 5 = .ok (.aload_n 0, 1) := by decide +kernel
theorem dX5_octet_6 : decode cX5_octet 6 = .ok (.getfield 126, 3) := by decide +kernel
theorem dX5_octet_9 : decode cX5_octet 9 = .ok (.sipush 256, 3) := by decide +kernel
theorem dX5_octet_12 : decode cX5_octet 12 = .ok (.if_icmp .ne 4, 3) := by decide +kernel
theorem dX5_octet_15 : decode cX5_octet 15 = .ok (.return_, 1) := by decide +kernel
theorem dX5_octet_16 : decode cX5_octet 16 = .ok (.aload_n 0, 1) := by decide +kernel
theorem dX5_octet_17 : decode cX5_octet 17 = .ok (.getfield 68, 3) := by decide +kernel
theorem dX5_octet_20 : decode cX5_octet 20 = .ok (.aload_n 0, 1) := by decide +kernel
theorem dX5_octet_21 : decode cX5_octet 21 = .ok (.getfield 126, 3) := by decide +kernel
theorem dX5_octet_24 : decode cX5_octet 24 = .ok (.iload_n 1, 1) := by decide +kernel
theorem dX5_octet_25 : decode cX5_octet 25 = .ok (.sipush 255, 3) := by decide +kernel
theorem dX5_octet_28 : decode cX5_octet 28 = .ok (.iand, 1) := by decide +kernel
theorem dX5_octet_29 : decode cX5_octet 29 = .ok (.iastore, 1) := by decide +kernel
theorem dX5_octet_30 : decode cX5_octet 30 = .ok (.aload_n 0, 1) := by decide +kernel
theorem dX5_octet_31 : decode cX5_octet 31 = .ok (.dup, 1) := by decide +kernel
theorem dX5_octet_32 : decode cX5_octet 32 = .ok (.getfield 126, 3) := by decide +kernel
theorem dX5_octet_35 : decode cX5_octet 35 = .ok (.iconst 1, 1) := by decide +kernel
theorem dX5_octet_36 : decode cX5_octet 36 = .ok (.iadd, 1) := by decide +kernel
theorem dX5_octet_37 : decode cX5_octet 37 = .ok (.putfield 126, 3) := by decide +kernel
theorem dX5_octet_40 : decode cX5_octet 40 = .ok (.return_, 1) := by decide +kernel
theorem dX5_stateOf_0 : decode cX5_stateOf 0 = .ok (.aload_n 0, 1) := by decide +kernel
theorem dX5_stateOf_1 : decode cX5_stateOf 1 = .ok (.getfield 19, 3) := by decide +kernel
theorem dX5_stateOf_4 : decode cX5_stateOf 4 = .ok (.iload_n 1, 1) := by decide +kernel
theorem dX5_stateOf_5 : decode cX5_stateOf 5 = .ok (.iaload, 1) := by decide +kernel
theorem dX5_stateOf_6 : decode cX5_stateOf 6 = .ok (.ifCond .ne 7, 3) := by decide +kernel
theorem dX5_stateOf_9 : decode cX5_stateOf 9 = .ok (.iconst 0, 1) := by decide +kernel
theorem dX5_stateOf_10 : decode cX5_stateOf 10 = .ok (.goto 14, 3) := by decide +kernel
theorem dX5_stateOf_13 : decode cX5_stateOf 13 = .ok (.aload_n 0, 1) := by decide +kernel
theorem dX5_stateOf_14 : decode cX5_stateOf 14 = .ok (.getfield 50, 3) := by decide +kernel
theorem dX5_stateOf_17 : decode cX5_stateOf 17 = .ok (.aload_n 0, 1) := by decide +kernel
theorem dX5_stateOf_18 : decode cX5_stateOf 18 = .ok (.getfield 19, 3) := by decide +kernel
theorem dX5_stateOf_21 : decode cX5_stateOf 21 = .ok (.iload_n 1, 1) := by decide +kernel
theorem dX5_stateOf_22 : decode cX5_stateOf 22 = .ok (.iaload, 1) := by decide +kernel
theorem dX5_stateOf_23 : decode cX5_stateOf 23 = .ok (.iaload, 1) := by decide +kernel
theorem dX5_stateOf_24 : decode cX5_stateOf 24 = .ok (.ireturn, 1) := by decide +kernel
theorem dX5_there_0 : decode cX5_there 0 = .ok (.aload_n 0, 1) := by decide +kernel
theorem dX5_there_1 : decode cX5_there 1 = .ok (.getfield 22, 3) := by decide +kernel
theorem dX5_there_4 : decode cX5_there 4 = .ok (.iload_n 1, 1) := by decide +kernel
theorem dX5_there_5 : decode cX5_there 5 = .ok (.baload, 1) := by decide +kernel
theorem dX5_there_6 : decode cX5_there 6 = .ok (.ifCond .ne 16, 3) := by decide +kernel
theorem dX5_there_9 : decode cX5_there 9 = .ok (.aload_n 0, 1) := by decide +kernel
theorem dX5_there_10 : decode cX5_there 10 = .ok (.getfield 26, 3) := by decide +kernel
theorem dX5_there_13 : decode cX5_there 13 = .ok (.iload_n 1, 1) := by decide +kernel
theorem dX5_there_14 : decode cX5_there 14 = .ok (.baload, 1) := by decide +kernel
theorem dX5_there_15 : decode cX5_there 15 = .ok (.ifCond .ne 7, 3) := by decide +kernel
theorem dX5_there_18 : decode cX5_there 18 = .ok (.iconst 1, 1) := by decide +kernel
theorem dX5_there_19 : decode cX5_there 19 = .ok (.goto 4, 3) := by decide +kernel
theorem dX5_there_22 : decode cX5_there 22 = .ok (.iconst 0, 1) := by decide +kernel
theorem dX5_there_23 : decode cX5_there 23 = .ok (.ireturn, 1) := by decide +kernel
theorem dX5_hold_0 : decode cX5_hold 0 = .ok (.aload_n 0, 1) := by decide +kernel
theorem dX5_hold_1 : decode cX5_hold 1 = .ok (.getfield 129, 3) := by decide +kernel
theorem dX5_hold_4 : decode cX5_hold 4 = .ok (.ifCond .ne 14, 3) := by decide +kernel
theorem dX5_hold_7 : decode cX5_hold 7 = .ok (.aload_n 0, 1) := by decide +kernel
theorem dX5_hold_8 : decode cX5_hold 8 = .ok (.getfield 133, 3) := by decide +kernel
theorem dX5_hold_11 : decode cX5_hold 11 = .ok (.ifCond .ne 7, 3) := by decide +kernel
theorem dX5_hold_14 : decode cX5_hold 14 = .ok (.iconst 1, 1) := by decide +kernel
theorem dX5_hold_15 : decode cX5_hold 15 = .ok (.goto 4, 3) := by decide +kernel
theorem dX5_hold_18 : decode cX5_hold 18 = .ok (.iconst 0, 1) := by decide +kernel
theorem dX5_hold_19 : decode cX5_hold 19 = .ok (.ireturn, 1) := by decide +kernel
set_option maxRecDepth 20000 in
theorem ggX5_package0_X5_none : GoodIn wsX5_package0 wsX5_none := goodIn_r _ [17, 18, 19, 46, 47, 48, 49, 50, 51, 52, 53, 54, 55, 56, 57, 58, 59, 60, 61, 62, 63, 64, 65, 66, 67, 68, 69, 70, 71, 72, 73, 74, 75, 76, 77, 78, 79, 80, 81] (by decide +kernel) (by decide +kernel)
set_option maxRecDepth 20000 in
theorem gX5_package0_X5_none : GoodIn wsX5_package0 (wsV RX5 136 RX5 yX5_none wsX5_none) := goodIn_app (goodIn_of _ (by decide +kernel)) ggX5_package0_X5_none
set_option maxRecDepth 20000 in
theorem ggX5_package0_X5_stateOf : GoodIn wsX5_package0 wsX5_stateOf := goodIn_ca (goodIn_r _ [23, 6, 11, 46, 47, 48, 49, 50, 51, 52, 53, 54, 55, 56, 57, 58, 59, 60, 61, 62, 63, 64, 65, 66, 67, 68, 69, 70, 71, 72, 73, 74, 75, 76, 77, 78, 79, 80, 81] (by decide +kernel) (by decide +kernel)) (goodIn_sub (fun _ h => List.mem_cons_of_mem _ (List.mem_append_right _ h)) (by decide +kernel))
set_option maxRecDepth 20000 in
theorem gX5_package0_X5_stateOf : GoodIn wsX5_package0 (wsV RX5 140 RX5 yX5_stateOf wsX5_stateOf) := goodIn_app (goodIn_of _ (by decide +kernel)) ggX5_package0_X5_stateOf
set_option maxRecDepth 20000 in
theorem ggX5_package0_X5_findDigest : GoodIn wsX5_package0 wsX5_findDigest := goodIn_ca (goodIn_r _ [27, 10, 28, 29, 30, 31, 32, 33, 34, 35, 36, 37, 16, 38, 12, 39, 40, 41, 42, 43, 44, 45, 46, 47, 48, 49, 50, 51, 52, 53, 54, 55, 56, 57, 58, 59, 60, 61, 62, 63, 64, 65, 66, 67, 68, 69, 70, 71, 72, 73, 74, 75, 76, 77, 78, 79, 80, 81] (by decide +kernel) (by decide +kernel)) (goodIn_sub (fun _ h => List.mem_cons_of_mem _ (List.mem_append_right _ h)) (by decide +kernel))
set_option maxRecDepth 20000 in
theorem gX5_package0_X5_findDigest : GoodIn wsX5_package0 (wsV RX5 147 RX5 yX5_findDigest wsX5_findDigest) := goodIn_app (goodIn_of _ (by decide +kernel)) ggX5_package0_X5_findDigest
theorem dX5_package0_0 : decode cX5_package0 0 = .ok (.aload_n 0, 1) := by decide +kernel
theorem dX5_package0_1 : decode cX5_package0 1 = .ok (.iload_n 1, 1) := by decide +kernel
theorem dX5_package0_2 : decode cX5_package0 2 = .ok (.invokevirtual 136, 3) := by decide +kernel
theorem dX5_package0_5 : decode cX5_package0 5 = .ok (.ifCond .eq 5, 3) := by decide +kernel
theorem dX5_package0_8 : decode cX5_package0 8 = .ok (.iconst (-1), 1) := by decide +kernel
theorem dX5_package0_9 : decode cX5_package0 9 = .ok (.ireturn, 1) := by decide +kernel
theorem dX5_package0_10 : decode cX5_package0 10 = .ok (.iload_n 2, 1) := by decide +kernel
theorem dX5_package0_11 : decode cX5_package0 11 = .ok (.iconst 1, 1) := by decide +kernel
theorem dX5_package0_12 : decode cX5_package0 12 = .ok (.if_icmp .lt 17, 3) := by decide +kernel
theorem dX5_package0_15 : decode cX5_package0 15 = .ok (.iload_n 2, 1) := by decide +kernel
theorem dX5_package0_16 : decode cX5_package0 16 = .ok (.sipush 1000, 3) := by decide +kernel
theorem dX5_package0_19 : decode cX5_package0 19 = .ok (.if_icmp .gt 10, 3) := by decide +kernel
theorem dX5_package0_22 : decode cX5_package0 22 = .ok (.aload_n 0, 1) := by decide +kernel
theorem dX5_package0_23 : decode cX5_package0 23 = .ok (.getfield 126, 3) := by decide +kernel
theorem dX5_package0_26 : decode cX5_package0 26 = .ok (.ifCond .ne 6, 3) := by decide +kernel
theorem dX5_package0_29 : decode cX5_package0 29 = .ok (.bipush (-2), 2) := by decide +kernel
theorem dX5_package0_31 : decode cX5_package0 31 = .ok (.ireturn, 1) := by decide +kernel
theorem dX5_package0_32 : decode cX5_package0 32 = .ok (.aload_n 0, 1) := by decide +kernel
theorem dX5_package0_33 : decode cX5_package0 33 = .ok (.iload_n 1, 1) := by decide +kernel
theorem dX5_package0_34 : decode cX5_package0 34 = .ok (.invokevirtual 140, 3) := by decide +kernel
theorem dX5_package0_37 : decode cX5_package0 37 = .ok (.iconst 2, 1) := by decide +kernel
theorem dX5_package0_38 : decode cX5_package0 38 = .ok (.if_icmp .lt 6, 3) := by decide +kernel
theorem dX5_package0_41 : decode cX5_package0 41 = .ok (.bipush (-3), 2) := by decide +kernel
theorem dX5_package0_43 : decode cX5_package0 43 = .ok (.ireturn, 1) := by decide +kernel
theorem dX5_package0_44 : decode cX5_package0 44 = .ok (.aload_n 0, 1) := by decide +kernel
theorem dX5_package0_45 : decode cX5_package0 45 = .ok (.getfield 144, 3) := by decide +kernel
theorem dX5_package0_48 : decode cX5_package0 48 = .ok (.bipush 60, 2) := by decide +kernel
theorem dX5_package0_50 : decode cX5_package0 50 = .ok (.if_icmp .ne 6, 3) := by decide +kernel
theorem dX5_package0_53 : decode cX5_package0 53 = .ok (.bipush (-4), 2) := by decide +kernel
theorem dX5_package0_55 : decode cX5_package0 55 = .ok (.ireturn, 1) := by decide +kernel
theorem dX5_package0_56 : decode cX5_package0 56 = .ok (.iload_n 3, 1) := by decide +kernel
theorem dX5_package0_57 : decode cX5_package0 57 = .ok (.ifCond .ne 6, 3) := by decide +kernel
theorem dX5_package0_60 : decode cX5_package0 60 = .ok (.bipush (-5), 2) := by decide +kernel
theorem dX5_package0_62 : decode cX5_package0 62 = .ok (.ireturn, 1) := by decide +kernel
theorem dX5_package0_63 : decode cX5_package0 63 = .ok (.aload_n 0, 1) := by decide +kernel
theorem dX5_package0_64 : decode cX5_package0 64 = .ok (.getfield 68, 3) := by decide +kernel
theorem dX5_package0_67 : decode cX5_package0 67 = .ok (.iconst 0, 1) := by decide +kernel
theorem dX5_package0_68 : decode cX5_package0 68 = .ok (.iaload, 1) := by decide +kernel
theorem dX5_package0_69 : decode cX5_package0 69 = .ok (.aload_n 0, 1) := by decide +kernel
theorem dX5_package0_70 : decode cX5_package0 70 = .ok (.getfield 7, 3) := by decide +kernel
theorem dX5_package0_73 : decode cX5_package0 73 = .ok (.iload_n 1, 1) := by decide +kernel
theorem dX5_package0_74 : decode cX5_package0 74 = .ok (.iaload, 1) := by decide +kernel
theorem dX5_package0_75 : decode cX5_package0 75 = .ok (.if_icmp .eq 6, 3) := by decide +kernel
theorem dX5_package0_78 : decode cX5_package0 78 = .ok (.bipush (-6), 2) := by decide +kernel
theorem dX5_package0_80 : decode cX5_package0 80 = .ok (.ireturn, 1) := by decide +kernel
theorem dX5_package0_81 : decode cX5_package0 81 = .ok (.iload_n 2, 1) := by decide +kernel
theorem dX5_package0_82 : decode cX5_package0 82 = .ok (.aload_n 0, 1) := by decide +kernel
theorem dX5_package0_83 : decode cX5_package0 83 = .ok (.getfield 16, 3) := by decide +kernel
theorem dX5_package0_86 : decode cX5_package0 86 = .ok (.iload_n 1, 1) := by decide +kernel
theorem dX5_package0_87 : decode cX5_package0 87 = .ok (.iaload, 1) := by decide +kernel
theorem dX5_package0_88 : decode cX5_package0 88 = .ok (.if_icmp .gt 6, 3) := by decide +kernel
theorem dX5_package0_91 : decode cX5_package0 91 = .ok (.bipush (-7), 2) := by decide +kernel
theorem dX5_package0_93 : decode cX5_package0 93 = .ok (.ireturn, 1) := by decide +kernel
theorem dX5_package0_94 : decode cX5_package0 94 = .ok (.aload_n 0, 1) := by decide +kernel
theorem dX5_package0_95 : decode cX5_package0 95 = .ok (.getfield 19, 3) := by decide +kernel
theorem dX5_package0_98 : decode cX5_package0 98 = .ok (.iload_n 1, 1) := by decide +kernel
theorem dX5_package0_99 : decode cX5_package0 99 = .ok (.iaload, 1) := by decide +kernel
theorem dX5_package0_100 : decode cX5_package0 100 = .ok (.ifCond .le 15, 3) := by decide +kernel
theorem dX5_package0_103 : decode cX5_package0 103 = .ok (.aload_n 0, 1) := by decide +kernel
theorem dX5_package0_104 : decode cX5_package0 104 = .ok (.getfield 59, 3) := by decide +kernel
theorem dX5_package0_107 : decode cX5_package0 107 = .ok (.aload_n 0, 1) := by decide +kernel
theorem dX5_package0_108 : decode cX5_package0 108 = .ok (.getfield 19, 3) := by decide +kernel
theorem dX5_package0_111 : decode cX5_package0 111 = .ok (.iload_n 1, 1) := by decide +kernel
theorem dX5_package0_112 : decode cX5_package0 112 = .ok (.iaload, 1) := by decide +kernel
theorem dX5_package0_113 : decode cX5_package0 113 = .ok (.iconst 0, 1) := by decide +kernel
theorem dX5_package0_114 : decode cX5_package0 114 = .ok (.iastore, 1) := by decide +kernel
theorem dX5_package0_115 : decode cX5_package0 115 = .ok (.aload_n 0, 1) := by decide +kernel
theorem dX5_package0_116 : decode cX5_package0 116 = .ok (.dup, 1) := by decide +kernel
theorem dX5_package0_117 : decode cX5_package0 117 = .ok (.getfield 144, 3) := by decide +kernel
theorem dX5_package0_120 : decode cX5_package0 120 = .ok (.iconst 1, 1) := by decide +kernel
theorem dX5_package0_121 : decode cX5_package0 121 = .ok (.iadd, 1) := by decide +kernel
theorem dX5_package0_122 : decode cX5_package0 122 = .ok (.putfield 144, 3) := by decide +kernel
theorem dX5_package0_125 : decode cX5_package0 125 = .ok (.aload_n 0, 1) := by decide +kernel
theorem dX5_package0_126 : decode cX5_package0 126 = .ok (.getfield 19, 3) := by decide +kernel
theorem dX5_package0_129 : decode cX5_package0 129 = .ok (.iload_n 1, 1) := by decide +kernel
theorem dX5_package0_130 : decode cX5_package0 130 = .ok (.aload_n 0, 1) := by decide +kernel
theorem dX5_package0_131 : decode cX5_package0 131 = .ok (.getfield 144, 3) := by decide +kernel
theorem dX5_package0_134 : decode cX5_package0 134 = .ok (.iastore, 1) := by decide +kernel
theorem dX5_package0_135 : decode cX5_package0 135 = .ok (.aload_n 0, 1) := by decide +kernel
theorem dX5_package0_136 : decode cX5_package0 136 = .ok (.getfield 41, 3) := by decide +kernel
theorem dX5_package0_139 : decode cX5_package0 139 = .ok (.aload_n 0, 1) := by decide +kernel
theorem dX5_package0_140 : decode cX5_package0 140 = .ok (.getfield 144, 3) := by decide +kernel
theorem dX5_package0_143 : decode cX5_package0 143 = .ok (.iload_n 1, 1) := by decide +kernel
theorem dX5_package0_144 : decode cX5_package0 144 = .ok (.iastore, 1) := by decide +kernel
theorem dX5_package0_145 : decode cX5_package0 145 = .ok (.aload_n 0, 1) := by decide +kernel
theorem dX5_package0_146 : decode cX5_package0 146 = .ok (.getfield 44, 3) := by decide +kernel
theorem dX5_package0_149 : decode cX5_package0 149 = .ok (.aload_n 0, 1) := by decide +kernel
theorem dX5_package0_150 : decode cX5_package0 150 = .ok (.getfield 144, 3) := by decide +kernel
theorem dX5_package0_153 : decode cX5_package0 153 = .ok (.iload_n 2, 1) := by decide +kernel
theorem dX5_package0_154 : decode cX5_package0 154 = .ok (.iastore, 1) := by decide +kernel
theorem dX5_package0_155 : decode cX5_package0 155 = .ok (.aload_n 0, 1) := by decide +kernel
theorem dX5_package0_156 : decode cX5_package0 156 = .ok (.getfield 47, 3) := by decide +kernel
theorem dX5_package0_159 : decode cX5_package0 159 = .ok (.aload_n 0, 1) := by decide +kernel
theorem dX5_package0_160 : decode cX5_package0 160 = .ok (.getfield 144, 3) := by decide +kernel
theorem dX5_package0_163 : decode cX5_package0 163 = .ok (.aload_n 0, 1) := by decide +kernel
theorem dX5_package0_164 : decode cX5_package0 164 = .ok (.getfield 126, 3) := by decide +kernel
theorem dX5_package0_167 : decode cX5_package0 167 = .ok (.iastore, 1) := by decide +kernel
theorem dX5_package0_168 : decode cX5_package0 168 = .ok (.aload_n 0, 1) := by decide +kernel
theorem dX5_package0_169 : decode cX5_package0 169 = .ok (.getfield 50, 3) := by decide +kernel
theorem dX5_package0_172 : decode cX5_package0 172 = .ok (.aload_n 0, 1) := by decide +kernel
theorem dX5_package0_173 : decode cX5_package0 173 = .ok (.getfield 144, 3) := by decide +kernel
theorem dX5_package0_176 : decode cX5_package0 176 = .ok (.iconst 1, 1) := by decide +kernel
theorem dX5_package0_177 : decode cX5_package0 177 = .ok (.iastore, 1) := by decide +kernel
theorem dX5_package0_178 : decode cX5_package0 178 = .ok (.aload_n 0, 1) := by decide +kernel
theorem dX5_package0_179 : decode cX5_package0 179 = .ok (.getfield 59, 3) := by decide +kernel
theorem dX5_package0_182 : decode cX5_package0 182 = .ok (.aload_n 0, 1) := by decide +kernel
theorem dX5_package0_183 : decode cX5_package0 183 = .ok (.getfield 144, 3) := by decide +kernel
theorem dX5_package0_186 : decode cX5_package0 186 = .ok (.aload_n 0, 1) := by decide +kernel
theorem dX5_package0_187 : decode cX5_package0 187 = .ok (.getfield 144, 3) := by decide +kernel
theorem dX5_package0_190 : decode cX5_package0 190 = .ok (.iastore, 1) := by decide +kernel
theorem dX5_package0_191 : decode cX5_package0 191 = .ok (.iconst 0, 1) := by decide +kernel
theorem dX5_package0_192 : decode cX5_package0 192 = .ok (.istore 4, 2) := by decide +kernel
theorem dX5_package0_194 : decode cX5_package0 194 = .ok (.iload 4, 2) := by decide +kernel
theorem dX5_package0_196 : decode cX5_package0 196 = .ok (.aload_n 0, 1) := by decide +kernel
theorem dX5_package0_197 : decode cX5_package0 197 = .ok (.getfield 126, 3) := by decide +kernel
theorem dX5_package0_200 : decode cX5_package0 200 = .ok (.if_icmp .ge 32, 3) := by decide +kernel
theorem dX5_package0_203 : decode cX5_package0 203 = .ok (.aload_n 0, 1) := by decide +kernel
theorem dX5_package0_204 : decode cX5_package0 204 = .ok (.getfield 65, 3) := by decide +kernel
theorem dX5_package0_207 : decode cX5_package0 207 = .ok (.sipush 256, 3) := by decide +kernel
theorem dX5_package0_210 : decode cX5_package0 210 = .ok (.aload_n 0, 1) := by decide +kernel
theorem dX5_package0_211 : decode cX5_package0 211 = .ok (.getfield 144, 3) := by decide +kernel
theorem dX5_package0_214 : decode cX5_package0 214 = .ok (.imul, 1) := by decide +kernel
theorem dX5_package0_215 : decode cX5_package0 215 = .ok (.iload 4, 2) := by decide +kernel
theorem dX5_package0_217 : decode cX5_package0 217 = .ok (.iadd, 1) := by decide +kernel
theorem dX5_package0_218 : decode cX5_package0 218 = .ok (.aload_n 0, 1) := by decide +kernel
theorem dX5_package0_219 : decode cX5_package0 219 = .ok (.getfield 68, 3) := by decide +kernel
theorem dX5_package0_222 : decode cX5_package0 222 = .ok (.iload 4, 2) := by decide +kernel
theorem dX5_package0_224 : decode cX5_package0 224 = .ok (.iaload, 1) := by decide +kernel
theorem dX5_package0_225 : decode cX5_package0 225 = .ok (.iastore, 1) := by decide +kernel
theorem dX5_package0_226 : decode cX5_package0 226 = .ok (.iinc 4 1, 3) := by decide +kernel
theorem dX5_package0_229 : decode cX5_package0 229 = .ok (.goto (-35), 3) := by decide +kernel
theorem dX5_package0_232 : decode cX5_package0 232 = .ok (.aload_n 0, 1) := by decide +kernel
theorem dX5_package0_233 : decode cX5_package0 233 = .ok (.iconst 0, 1) := by decide +kernel
theorem dX5_package0_234 : decode cX5_package0 234 = .ok (.putfield 126, 3) := by decide +kernel
theorem dX5_package0_237 : decode cX5_package0 237 = .ok (.aload_n 0, 1) := by decide +kernel
theorem dX5_package0_238 : decode cX5_package0 238 = .ok (.aload_n 0, 1) := by decide +kernel
theorem dX5_package0_239 : decode cX5_package0 239 = .ok (.getfield 144, 3) := by decide +kernel
theorem dX5_package0_242 : decode cX5_package0 242 = .ok (.invokevirtual 147, 3) := by decide +kernel
theorem dX5_package0_245 : decode cX5_package0 245 = .ok (.aload_n 0, 1) := by decide +kernel
theorem dX5_package0_246 : decode cX5_package0 246 = .ok (.getfield 144, 3) := by decide +kernel
theorem dX5_package0_249 : decode cX5_package0 249 = .ok (.ireturn, 1) := by decide +kernel
theorem dX5_digest_0 : decode cX5_digest 0 = .ok (.aload_n 0, 1) := by decide +kernel
theorem dX5_digest_1 : decode cX5_digest 1 = .ok (.iload_n 1, 1) := by decide +kernel
theorem dX5_digest_2 : decode cX5_digest 2 = .ok (.ifCond .lt 11, 3) := by decide +kernel
theorem dX5_digest_5 : decode cX5_digest 5 = .ok (.iload_n 1, 1) := by decide +kernel
theorem dX5_digest_6 : decode cX5_digest 6 = .ok (.aload_n 0, 1) := by decide +kernel
theorem dX5_digest_7 : decode cX5_digest 7 = .ok (.getfield 120, 3) := by decide +kernel
theorem dX5_digest_10 : decode cX5_digest 10 = .ok (.if_icmp .lt 7, 3) := by decide +kernel
theorem dX5_digest_13 : decode cX5_digest 13 = .ok (.iconst 1, 1) := by decide +kernel
theorem dX5_digest_14 : decode cX5_digest 14 = .ok (.goto 4, 3) := by decide +kernel
theorem dX5_digest_17 : decode cX5_digest 17 = .ok (.iconst 0, 1) := by decide +kernel
theorem dX5_digest_18 : decode cX5_digest 18 = .ok (.putfield 99, 3) := by decide +kernel
theorem dX5_digest_21 : decode cX5_digest 21 = .ok (.aload_n 0, 1) := by decide +kernel
theorem dX5_digest_22 : decode cX5_digest 22 = .ok (.getfield 99, 3) := by decide +kernel
theorem dX5_digest_25 : decode cX5_digest 25 = .ok (.ifCond .le 7, 3) := by decide +kernel
theorem dX5_digest_28 : decode cX5_digest 28 = .ok (.iconst 0, 1) := by decide +kernel
theorem dX5_digest_29 : decode cX5_digest 29 = .ok (.goto 10, 3) := by decide +kernel
theorem dX5_digest_32 : decode cX5_digest 32 = .ok (.aload_n 0, 1) := by decide +kernel
theorem dX5_digest_33 : decode cX5_digest 33 = .ok (.getfield 71, 3) := by decide +kernel
theorem dX5_digest_36 : decode cX5_digest 36 = .ok (.iload_n 1, 1) := by decide +kernel
theorem dX5_digest_37 : decode cX5_digest 37 = .ok (.iaload, 1) := by decide +kernel
theorem dX5_digest_38 : decode cX5_digest 38 = .ok (.i2b, 1) := by decide +kernel
theorem dX5_digest_39 : decode cX5_digest 39 = .ok (.ireturn, 1) := by decide +kernel
theorem dX5_isOpen_0 : decode cX5_isOpen 0 = .ok (.aload_n 0, 1) := by decide +kernel
theorem dX5_isOpen_1 : decode cX5_isOpen 1 = .ok (.getfield 19, 3) := by decide +kernel
theorem dX5_isOpen_4 : decode cX5_isOpen 4 = .ok (.aload_n 0, 1) := by decide +kernel
theorem dX5_isOpen_5 : decode cX5_isOpen 5 = .ok (.getfield 41, 3) := by decide +kernel
theorem dX5_isOpen_8 : decode cX5_isOpen 8 = .ok (.iload_n 1, 1) := by decide +kernel
theorem dX5_isOpen_9 : decode cX5_isOpen 9 = .ok (.iaload, 1) := by decide +kernel
theorem dX5_isOpen_10 : decode cX5_isOpen 10 = .ok (.iaload, 1) := by decide +kernel
theorem dX5_isOpen_11 : decode cX5_isOpen 11 = .ok (.iload_n 1, 1) := by decide +kernel
theorem dX5_isOpen_12 : decode cX5_isOpen 12 = .ok (.if_icmp .ne 7, 3) := by decide +kernel
theorem dX5_isOpen_15 : decode cX5_isOpen 15 = .ok (.iconst 1, 1) := by decide +kernel
theorem dX5_isOpen_16 : decode cX5_isOpen 16 = .ok (.goto 4, 3) := by decide +kernel
theorem dX5_isOpen_19 : decode cX5_isOpen 19 = .ok (.iconst 0, 1) := by decide +kernel
theorem dX5_isOpen_20 : decode cX5_isOpen 20 = .ok (.ireturn, 1) := by decide +kernel
set_option maxRecDepth 20000 in
theorem ggX5_needs_X5_isOpen : GoodIn wsX5_needs wsX5_isOpen := goodIn_ca (goodIn_r _ [9, 10, 11, 12, 13, 14, 15, 16, 17, 18, 19, 20, 21, 22, 23, 24, 25, 26, 27, 28, 29, 30, 31, 32, 33, 34, 35, 36, 37, 38, 39, 40, 41, 42, 43, 44, 45, 46, 47] (by decide +kernel) (by decide +kernel)) (goodIn_sub (fun _ h => List.mem_cons_of_mem _ (List.mem_append_right _ h)) (by decide +kernel))
set_option maxRecDepth 20000 in
theorem gX5_needs_X5_isOpen : GoodIn wsX5_needs (wsV RX5 151 RX5 yX5_isOpen wsX5_isOpen) := goodIn_app (goodIn_of _ (by decide +kernel)) ggX5_needs_X5_isOpen
theorem dX5_needs_0 : decode cX5_needs 0 = .ok (.aload_n 0, 1) := by decide +kernel
theorem dX5_needs_1 : decode cX5_needs 1 = .ok (.iconst 0, 1) := by decide +kernel
theorem dX5_needs_2 : decode cX5_needs 2 = .ok (.putfield 99, 3) := by decide +kernel
theorem dX5_needs_5 : decode cX5_needs 5 = .ok (.iload_n 1, 1) := by decide +kernel
theorem dX5_needs_6 : decode cX5_needs 6 = .ok (.iconst 1, 1) := by decide +kernel
theorem dX5_needs_7 : decode cX5_needs 7 = .ok (.if_icmp .lt 24, 3) := by decide +kernel
theorem dX5_needs_10 : decode cX5_needs 10 = .ok (.iload_n 1, 1) := by decide +kernel
theorem dX5_needs_11 : decode cX5_needs 11 = .ok (.aload_n 0, 1) := by decide +kernel
theorem dX5_needs_12 : decode cX5_needs 12 = .ok (.getfield 144, 3) := by decide +kernel
theorem dX5_needs_15 : decode cX5_needs 15 = .ok (.if_icmp .gt 16, 3) := by decide +kernel
theorem dX5_needs_18 : decode cX5_needs 18 = .ok (.iload_n 2, 1) := by decide +kernel
theorem dX5_needs_19 : decode cX5_needs 19 = .ok (.iconst 1, 1) := by decide +kernel
theorem dX5_needs_20 : decode cX5_needs 20 = .ok (.if_icmp .lt 11, 3) := by decide +kernel
theorem dX5_needs_23 : decode cX5_needs 23 = .ok (.iload_n 2, 1) := by decide +kernel
theorem dX5_needs_24 : decode cX5_needs 24 = .ok (.aload_n 0, 1) := by decide +kernel
theorem dX5_needs_25 : decode cX5_needs 25 = .ok (.getfield 144, 3) := by decide +kernel
theorem dX5_needs_28 : decode cX5_needs 28 = .ok (.if_icmp .le 5, 3) := by decide +kernel
theorem dX5_needs_31 : decode cX5_needs 31 = .ok (.iconst (-1), 1) := by decide +kernel
theorem dX5_needs_32 : decode cX5_needs 32 = .ok (.ireturn, 1) := by decide +kernel
theorem dX5_needs_33 : decode cX5_needs 33 = .ok (.iload_n 1, 1) := by decide +kernel
theorem dX5_needs_34 : decode cX5_needs 34 = .ok (.iload_n 2, 1) := by decide +kernel
theorem dX5_needs_35 : decode cX5_needs 35 = .ok (.if_icmp .ne 6, 3) := by decide +kernel
theorem dX5_needs_38 : decode cX5_needs 38 = .ok (.bipush (-2), 2) := by decide +kernel
theorem dX5_needs_40 : decode cX5_needs 40 = .ok (.ireturn, 1) := by decide +kernel
theorem dX5_needs_41 : decode cX5_needs 41 = .ok (.aload_n 0, 1) := by decide +kernel
theorem dX5_needs_42 : decode cX5_needs 42 = .ok (.iload_n 1, 1) := by decide +kernel
theorem dX5_needs_43 : decode cX5_needs 43 = .ok (.invokevirtual 151, 3) := by decide +kernel
theorem dX5_needs_46 : decode cX5_needs 46 = .ok (.ifCond .eq 39, 3) := by decide +kernel
theorem dX5_needs_49 : decode cX5_needs 49 = .ok (.aload_n 0, 1) := by decide +kernel
theorem dX5_needs_50 : decode cX5_needs 50 = .ok (.iload_n 2, 1) := by decide +kernel
theorem dX5_needs_51 : decode cX5_needs 51 = .ok (.invokevirtual 151, 3) := by decide +kernel
theorem dX5_needs_54 : decode cX5_needs 54 = .ok (.ifCond .eq 31, 3) := by decide +kernel
theorem dX5_needs_57 : decode cX5_needs 57 = .ok (.aload_n 0, 1) := by decide +kernel
theorem dX5_needs_58 : decode cX5_needs 58 = .ok (.getfield 62, 3) := by decide +kernel
theorem dX5_needs_61 : decode cX5_needs 61 = .ok (.aload_n 0, 1) := by decide +kernel
theorem dX5_needs_62 : decode cX5_needs 62 = .ok (.getfield 59, 3) := by decide +kernel
theorem dX5_needs_65 : decode cX5_needs 65 = .ok (.iload_n 1, 1) := by decide +kernel
theorem dX5_needs_66 : decode cX5_needs 66 = .ok (.iaload, 1) := by decide +kernel
theorem dX5_needs_67 : decode cX5_needs 67 = .ok (.baload, 1) := by decide +kernel
theorem dX5_needs_68 : decode cX5_needs 68 = .ok (.ifCond .ne 17, 3) := by decide +kernel
theorem dX5_needs_71 : decode cX5_needs 71 = .ok (.aload_n 0, 1) := by decide +kernel
theorem dX5_needs_72 : decode cX5_needs 72 = .ok (.getfield 62, 3) := by decide +kernel
theorem dX5_needs_75 : decode cX5_needs 75 = .ok (.aload_n 0, 1) := by decide +kernel
theorem dX5_needs_76 : decode cX5_needs 76 = .ok (.getfield 59, 3) := by decide +kernel
theorem dX5_needs_79 : decode cX5_needs 79 = .ok (.iload_n 2, 1) := by decide +kernel
theorem dX5_needs_80 : decode cX5_needs 80 = .ok (.iaload, 1) := by decide +kernel
theorem dX5_needs_81 : decode cX5_needs 81 = .ok (.baload, 1) := by decide +kernel
theorem dX5_needs_82 : decode cX5_needs 82 = .ok (.ifCond .eq 6, 3) := by decide +kernel
theorem dX5_needs_85 : decode cX5_needs 85 = .ok (.bipush (-3), 2) := by decide +kernel
theorem dX5_needs_87 : decode cX5_needs 87 = .ok (.ireturn, 1) := by decide +kernel
theorem dX5_needs_88 : decode cX5_needs 88 = .ok (.aload_n 0, 1) := by decide +kernel
theorem dX5_needs_89 : decode cX5_needs 89 = .ok (.getfield 59, 3) := by decide +kernel
theorem dX5_needs_92 : decode cX5_needs 92 = .ok (.iload_n 2, 1) := by decide +kernel
theorem dX5_needs_93 : decode cX5_needs 93 = .ok (.iaload, 1) := by decide +kernel
theorem dX5_needs_94 : decode cX5_needs 94 = .ok (.istore_n 3, 1) := by decide +kernel
theorem dX5_needs_95 : decode cX5_needs 95 = .ok (.iconst 0, 1) := by decide +kernel
theorem dX5_needs_96 : decode cX5_needs 96 = .ok (.istore 4, 2) := by decide +kernel
theorem dX5_needs_98 : decode cX5_needs 98 = .ok (.iconst 1, 1) := by decide +kernel
theorem dX5_needs_99 : decode cX5_needs 99 = .ok (.istore 5, 2) := by decide +kernel
theorem dX5_needs_101 : decode cX5_needs 101 = .ok (.iload 5, 2) := by decide +kernel
theorem dX5_needs_103 : decode cX5_needs 103 = .ok (.aload_n 0, 1) := by decide +kernel
theorem dX5_needs_104 : decode cX5_needs 104 = .ok (.getfield 144, 3) := by decide +kernel
theorem dX5_needs_107 : decode cX5_needs 107 = .ok (.if_icmp .gt 52, 3) := by decide +kernel
theorem dX5_needs_110 : decode cX5_needs 110 = .ok (.aload_n 0, 1) := by decide +kernel
theorem dX5_needs_111 : decode cX5_needs 111 = .ok (.getfield 59, 3) := by decide +kernel
theorem dX5_needs_114 : decode cX5_needs 114 = .ok (.iload 5, 2) := by decide +kernel
theorem dX5_needs_116 : decode cX5_needs 116 = .ok (.iaload, 1) := by decide +kernel
theorem dX5_needs_117 : decode cX5_needs 117 = .ok (.iload_n 3, 1) := by decide +kernel
theorem dX5_needs_118 : decode cX5_needs 118 = .ok (.if_icmp .ne 16, 3) := by decide +kernel
theorem dX5_needs_121 : decode cX5_needs 121 = .ok (.aload_n 0, 1) := by decide +kernel
theorem dX5_needs_122 : decode cX5_needs 122 = .ok (.getfield 59, 3) := by decide +kernel
theorem dX5_needs_125 : decode cX5_needs 125 = .ok (.iload 5, 2) := by decide +kernel
theorem dX5_needs_127 : decode cX5_needs 127 = .ok (.aload_n 0, 1) := by decide +kernel
theorem dX5_needs_128 : decode cX5_needs 128 = .ok (.getfield 59, 3) := by decide +kernel
theorem dX5_needs_131 : decode cX5_needs 131 = .ok (.iload_n 1, 1) := by decide +kernel
theorem dX5_needs_132 : decode cX5_needs 132 = .ok (.iaload, 1) := by decide +kernel
theorem dX5_needs_133 : decode cX5_needs 133 = .ok (.iastore, 1) := by decide +kernel
theorem dX5_needs_134 : decode cX5_needs 134 = .ok (.aload_n 0, 1) := by decide +kernel
theorem dX5_needs_135 : decode cX5_needs 135 = .ok (.getfield 59, 3) := by decide +kernel
theorem dX5_needs_138 : decode cX5_needs 138 = .ok (.iload 5, 2) := by decide +kernel
theorem dX5_needs_140 : decode cX5_needs 140 = .ok (.iaload, 1) := by decide +kernel
theorem dX5_needs_141 : decode cX5_needs 141 = .ok (.aload_n 0, 1) := by decide +kernel
theorem dX5_needs_142 : decode cX5_needs 142 = .ok (.getfield 59, 3) := by decide +kernel
theorem dX5_needs_145 : decode cX5_needs 145 = .ok (.iload_n 1, 1) := by decide +kernel
theorem dX5_needs_146 : decode cX5_needs 146 = .ok (.iaload, 1) := by decide +kernel
theorem dX5_needs_147 : decode cX5_needs 147 = .ok (.if_icmp .ne 6, 3) := by decide +kernel
theorem dX5_needs_150 : decode cX5_needs 150 = .ok (.iinc 4 1, 3) := by decide +kernel
theorem dX5_needs_153 : decode cX5_needs 153 = .ok (.iinc 5 1, 3) := by decide +kernel
theorem dX5_needs_156 : decode cX5_needs 156 = .ok (.goto (-55), 3) := by decide +kernel
theorem dX5_needs_159 : decode cX5_needs 159 = .ok (.iload 4, 2) := by decide +kernel
theorem dX5_needs_161 : decode cX5_needs 161 = .ok (.ireturn, 1) := by decide +kernel
set_option maxRecDepth 20000 in
theorem ggX5_block_X5_none : GoodIn wsX5_block wsX5_none := goodIn_r _ [7, 8, 9, 10, 11, 12, 13, 14, 15, 16, 17, 18, 19, 20, 21, 22, 23, 24, 25, 26, 27, 28, 29, 30, 31, 32, 33, 34, 35, 36, 37, 38, 39, 40, 41, 42, 43, 44, 45] (by decide +kernel) (by decide +kernel)
set_option maxRecDepth 20000 in
theorem gX5_block_X5_none : GoodIn wsX5_block (wsV RX5 136 RX5 yX5_none wsX5_none) := goodIn_app (goodIn_of _ (by decide +kernel)) ggX5_block_X5_none
theorem dX5_block_0 : decode cX5_block 0 = .ok (.aload_n 0, 1) := by decide +kernel
theorem dX5_block_1 : decode cX5_block 1 = .ok (.iload_n 1, 1) := by decide +kernel
theorem dX5_block_2 : decode cX5_block 2 = .ok (.invokevirtual 136, 3) := by decide +kernel
theorem dX5_block_5 : decode cX5_block 5 = .ok (.ifCond .eq 5, 3) := by decide +kernel
theorem dX5_block_8 : decode cX5_block 8 = .ok (.iconst (-1), 1) := by decide +kernel
theorem dX5_block_9 : decode cX5_block 9 = .ok (.ireturn, 1) := by decide +kernel
theorem dX5_block_10 : decode cX5_block 10 = .ok (.iload_n 2, 1) := by decide +kernel
theorem dX5_block_11 : decode cX5_block 11 = .ok (.ifCond .lt 13, 3) := by decide +kernel
theorem dX5_block_14 : decode cX5_block 14 = .ok (.iload_n 2, 1) := by decide +kernel
theorem dX5_block_15 : decode cX5_block 15 = .ok (.bipush 15, 2) := by decide +kernel
theorem dX5_block_17 : decode cX5_block 17 = .ok (.if_icmp .gt 7, 3) := by decide +kernel
theorem dX5_block_20 : decode cX5_block 20 = .ok (.iload_n 3, 1) := by decide +kernel
theorem dX5_block_21 : decode cX5_block 21 = .ok (.ifCond .ne 6, 3) := by decide +kernel
theorem dX5_block_24 : decode cX5_block 24 = .ok (.bipush (-2), 2) := by decide +kernel
theorem dX5_block_26 : decode cX5_block 26 = .ok (.ireturn, 1) := by decide +kernel
theorem dX5_block_27 : decode cX5_block 27 = .ok (.aload_n 0, 1) := by decide +kernel
theorem dX5_block_28 : decode cX5_block 28 = .ok (.getfield 29, 3) := by decide +kernel
theorem dX5_block_31 : decode cX5_block 31 = .ok (.iload_n 1, 1) := by decide +kernel
theorem dX5_block_32 : decode cX5_block 32 = .ok (.iload_n 2, 1) := by decide +kernel
theorem dX5_block_33 : decode cX5_block 33 = .ok (.iastore, 1) := by decide +kernel
theorem dX5_block_34 : decode cX5_block 34 = .ok (.aload_n 0, 1) := by decide +kernel
theorem dX5_block_35 : decode cX5_block 35 = .ok (.getfield 32, 3) := by decide +kernel
theorem dX5_block_38 : decode cX5_block 38 = .ok (.iload_n 1, 1) := by decide +kernel
theorem dX5_block_39 : decode cX5_block 39 = .ok (.iload_n 3, 1) := by decide +kernel
theorem dX5_block_40 : decode cX5_block 40 = .ok (.sipush 255, 3) := by decide +kernel
theorem dX5_block_43 : decode cX5_block 43 = .ok (.iand, 1) := by decide +kernel
theorem dX5_block_44 : decode cX5_block 44 = .ok (.iastore, 1) := by decide +kernel
theorem dX5_block_45 : decode cX5_block 45 = .ok (.iconst 1, 1) := by decide +kernel
theorem dX5_block_46 : decode cX5_block 46 = .ok (.ireturn, 1) := by decide +kernel
set_option maxRecDepth 20000 in
theorem ggX5_condition_X5_hold : GoodIn wsX5_condition wsX5_hold := goodIn_r _ [8, 2, 3, 9, 10, 11, 12, 13, 14, 15, 16, 17, 18, 19, 20, 21, 22, 23, 24, 25, 26, 27, 28, 29, 30, 31, 32, 33, 34, 35, 36, 37, 38, 39, 40, 41, 42, 43, 44] (by decide +kernel) (by decide +kernel)
set_option maxRecDepth 20000 in
theorem gX5_condition_X5_hold : GoodIn wsX5_condition (wsV RX5 154 RX5 yX5_hold wsX5_hold) := goodIn_app (goodIn_of _ (by decide +kernel)) ggX5_condition_X5_hold
theorem dX5_condition_0 : decode cX5_condition 0 = .ok (.aload_n 0, 1) := by decide +kernel
theorem dX5_condition_1 : decode cX5_condition 1 = .ok (.iconst 0, 1) := by decide +kernel
theorem dX5_condition_2 : decode cX5_condition 2 = .ok (.putfield 99, 3) := by decide +kernel
theorem dX5_condition_5 : decode cX5_condition 5 = .ok (.iload_n 1, 1) := by decide +kernel
theorem dX5_condition_6 : decode cX5_condition 6 = .ok (.ifCond .lt 8, 3) := by decide +kernel
theorem dX5_condition_9 : decode cX5_condition 9 = .ok (.iload_n 1, 1) := by decide +kernel
theorem dX5_condition_10 : decode cX5_condition 10 = .ok (.iconst 1, 1) := by decide +kernel
theorem dX5_condition_11 : decode cX5_condition 11 = .ok (.if_icmp .le 5, 3) := by decide +kernel
theorem dX5_condition_14 : decode cX5_condition 14 = .ok (.iconst (-1), 1) := by decide +kernel
theorem dX5_condition_15 : decode cX5_condition 15 = .ok (.ireturn, 1) := by decide +kernel
theorem dX5_condition_16 : decode cX5_condition 16 = .ok (.iload_n 1, 1) := by decide +kernel
theorem dX5_condition_17 : decode cX5_condition 17 = .ok (.ifCond .ne 19, 3) := by decide +kernel
theorem dX5_condition_20 : decode cX5_condition 20 = .ok (.aload_n 0, 1) := by decide +kernel
theorem dX5_condition_21 : decode cX5_condition 21 = .ok (.iload_n 2, 1) := by decide +kernel
theorem dX5_condition_22 : decode cX5_condition 22 = .ok (.ifCond .ne 7, 3) := by decide +kernel
theorem dX5_condition_25 : decode cX5_condition 25 = .ok (.iconst 1, 1) := by decide +kernel
theorem dX5_condition_26 : decode cX5_condition 26 = .ok (.goto 4, 3) := by decide +kernel
theorem dX5_condition_29 : decode cX5_condition 29 = .ok (.iconst 0, 1) := by decide +kernel
theorem dX5_condition_30 : decode cX5_condition 30 = .ok (.putfield 129, 3) := by decide +kernel
theorem dX5_condition_33 : decode cX5_condition 33 = .ok (.goto 16, 3) := by decide +kernel
theorem dX5_condition_36 : decode cX5_condition 36 = .ok (.aload_n 0, 1) := by decide +kernel
theorem dX5_condition_37 : decode cX5_condition 37 = .ok (.iload_n 2, 1) := by decide +kernel
theorem dX5_condition_38 : decode cX5_condition 38 = .ok (.ifCond .ne 7, 3) := by decide +kernel
theorem dX5_condition_41 : decode cX5_condition 41 = .ok (.iconst 1, 1) := by decide +kernel
theorem dX5_condition_42 : decode cX5_condition 42 = .ok (.goto 4, 3) := by decide +kernel
theorem dX5_condition_45 : decode cX5_condition 45 = .ok (.iconst 0, 1) := by decide +kernel
theorem dX5_condition_46 : decode cX5_condition 46 = .ok (.putfield 133, 3) := by decide +kernel
theorem dX5_condition_49 : decode cX5_condition 49 = .ok (.aload_n 0, 1) := by decide +kernel
theorem dX5_condition_50 : decode cX5_condition 50 = .ok (.invokevirtual 154, 3) := by decide +kernel
theorem dX5_condition_53 : decode cX5_condition 53 = .ok (.ifCond .eq 7, 3) := by decide +kernel
theorem dX5_condition_56 : decode cX5_condition 56 = .ok (.iconst 1, 1) := by decide +kernel
theorem dX5_condition_57 : decode cX5_condition 57 = .ok (.goto 4, 3) := by decide +kernel
theorem dX5_condition_60 : decode cX5_condition 60 = .ok (.iconst 0, 1) := by decide +kernel
theorem dX5_condition_61 : decode cX5_condition 61 = .ok (.ireturn, 1) := by decide +kernel
theorem dX5_write_0 : decode cX5_write 0 = .ok (.aload_n 0, 1) := by decide +kernel
theorem dX5_write_1 : decode cX5_write 1 = .ok (.getfield 19, 3) := by decide +kernel
theorem dX5_write_4 : decode cX5_write 4 = .ok (.iload_n 1, 1) := by decide +kernel
theorem dX5_write_5 : decode cX5_write 5 = .ok (.iaload, 1) := by decide +kernel
theorem dX5_write_6 : decode cX5_write 6 = .ok (.istore_n 2, 1) := by decide +kernel
theorem dX5_write_7 : decode cX5_write 7 = .ok (.iconst 1, 1) := by decide +kernel
theorem dX5_write_8 : decode cX5_write 8 = .ok (.aload_n 0, 1) := by decide +kernel
theorem dX5_write_9 : decode cX5_write 9 = .ok (.getfield 13, 3) := by decide +kernel
theorem dX5_write_12 : decode cX5_write 12 = .ok (.iload_n 1, 1) := by decide +kernel
theorem dX5_write_13 : decode cX5_write 13 = .ok (.iaload, 1) := by decide +kernel
theorem dX5_write_14 : decode cX5_write 14 = .ok (.isub, 1) := by decide +kernel
theorem dX5_write_15 : decode cX5_write 15 = .ok (.istore_n 3, 1) := by decide +kernel
theorem dX5_write_16 : decode cX5_write 16 = .ok (.sipush 512, 3) := by decide +kernel
theorem dX5_write_19 : decode cX5_write 19 = .ok (.iload_n 1, 1) := by decide +kernel
theorem dX5_write_20 : decode cX5_write 20 = .ok (.imul, 1) := by decide +kernel
theorem dX5_write_21 : decode cX5_write 21 = .ok (.sipush 256, 3) := by decide +kernel
theorem dX5_write_24 : decode cX5_write 24 = .ok (.iload_n 3, 1) := by decide +kernel
theorem dX5_write_25 : decode cX5_write 25 = .ok (.imul, 1) := by decide +kernel
theorem dX5_write_26 : decode cX5_write 26 = .ok (.iadd, 1) := by decide +kernel
theorem dX5_write_27 : decode cX5_write 27 = .ok (.istore 4, 2) := by decide +kernel
theorem dX5_write_29 : decode cX5_write 29 = .ok (.aload_n 0, 1) := by decide +kernel
theorem dX5_write_30 : decode cX5_write 30 = .ok (.getfield 29, 3) := by decide +kernel
theorem dX5_write_33 : decode cX5_write 33 = .ok (.iload_n 1, 1) := by decide +kernel
theorem dX5_write_34 : decode cX5_write 34 = .ok (.iaload, 1) := by decide +kernel
theorem dX5_write_35 : decode cX5_write 35 = .ok (.aload_n 0, 1) := by decide +kernel
theorem dX5_write_36 : decode cX5_write 36 = .ok (.getfield 53, 3) := by decide +kernel
theorem dX5_write_39 : decode cX5_write 39 = .ok (.iload_n 2, 1) := by decide +kernel
theorem dX5_write_40 : decode cX5_write 40 = .ok (.iaload, 1) := by decide +kernel
theorem dX5_write_41 : decode cX5_write 41 = .ok (.if_icmp .ne 7, 3) := by decide +kernel
theorem dX5_write_44 : decode cX5_write 44 = .ok (.iconst 1, 1) := by decide +kernel
theorem dX5_write_45 : decode cX5_write 45 = .ok (.goto 4, 3) := by decide +kernel
theorem dX5_write_48 : decode cX5_write 48 = .ok (.iconst 0, 1) := by decide +kernel
theorem dX5_write_49 : decode cX5_write 49 = .ok (.istore 5, 2) := by decide +kernel
theorem dX5_write_51 : decode cX5_write 51 = .ok (.bipush 16, 2) := by decide +kernel
theorem dX5_write_53 : decode cX5_write 53 = .ok (.aload_n 0, 1) := by decide +kernel
theorem dX5_write_54 : decode cX5_write 54 = .ok (.getfield 53, 3) := by decide +kernel
theorem dX5_write_57 : decode cX5_write 57 = .ok (.iload_n 2, 1) := by decide +kernel
theorem dX5_write_58 : decode cX5_write 58 = .ok (.iaload, 1) := by decide +kernel
theorem dX5_write_59 : decode cX5_write 59 = .ok (.imul, 1) := by decide +kernel
theorem dX5_write_60 : decode cX5_write 60 = .ok (.istore 6, 2) := by decide +kernel
theorem dX5_write_62 : decode cX5_write 62 = .ok (.iload 6, 2) := by decide +kernel
theorem dX5_write_64 : decode cX5_write 64 = .ok (.istore 7, 2) := by decide +kernel
theorem dX5_write_66 : decode cX5_write 66 = .ok (.iload 7, 2) := by decide +kernel
theorem dX5_write_68 : decode cX5_write 68 = .ok (.iload 6, 2) := by decide +kernel
theorem dX5_write_70 : decode cX5_write 70 = .ok (.bipush 16, 2) := by decide +kernel
theorem dX5_write_72 : decode cX5_write 72 = .ok (.iadd, 1) := by decide +kernel
theorem dX5_write_73 : decode cX5_write 73 = .ok (.if_icmp .ge 59, 3) := by decide +kernel
theorem dX5_write_76 : decode cX5_write 76 = .ok (.iload 7, 2) := by decide +kernel
theorem dX5_write_78 : decode cX5_write 78 = .ok (.aload_n 0, 1) := by decide +kernel
theorem dX5_write_79 : decode cX5_write 79 = .ok (.getfield 47, 3) := by decide +kernel
theorem dX5_write_82 : decode cX5_write 82 = .ok (.iload_n 2, 1) := by decide +kernel
theorem dX5_write_83 : decode cX5_write 83 = .ok (.iaload, 1) := by decide +kernel
theorem dX5_write_84 : decode cX5_write 84 = .ok (.if_icmp .ge 48, 3) := by decide +kernel
theorem dX5_write_87 : decode cX5_write 87 = .ok (.aload_n 0, 1) := by decide +kernel
theorem dX5_write_88 : decode cX5_write 88 = .ok (.getfield 38, 3) := by decide +kernel
theorem dX5_write_91 : decode cX5_write 91 = .ok (.iload 4, 2) := by decide +kernel
theorem dX5_write_93 : decode cX5_write 93 = .ok (.iload 7, 2) := by decide +kernel
theorem dX5_write_95 : decode cX5_write 95 = .ok (.iadd, 1) := by decide +kernel
theorem dX5_write_96 : decode cX5_write 96 = .ok (.aload_n 0, 1) := by decide +kernel
theorem dX5_write_97 : decode cX5_write 97 = .ok (.getfield 65, 3) := by decide +kernel
theorem dX5_write_100 : decode cX5_write 100 = .ok (.sipush 256, 3) := by decide +kernel
theorem dX5_write_103 : decode cX5_write 103 = .ok (.iload_n 2, 1) := by decide +kernel
theorem dX5_write_104 : decode cX5_write 104 = .ok (.imul, 1) := by decide +kernel
theorem dX5_write_105 : decode cX5_write 105 = .ok (.iload 7, 2) := by decide +kernel
theorem dX5_write_107 : decode cX5_write 107 = .ok (.iadd, 1) := by decide +kernel
theorem dX5_write_108 : decode cX5_write 108 = .ok (.iaload, 1) := by decide +kernel
theorem dX5_write_109 : decode cX5_write 109 = .ok (.iload 5, 2) := by decide +kernel
theorem dX5_write_111 : decode cX5_write 111 = .ok (.ifCond .eq 12, 3) := by decide +kernel
theorem dX5_write_114 : decode cX5_write 114 = .ok (.aload_n 0, 1) := by decide +kernel
theorem dX5_write_115 : decode cX5_write 115 = .ok (.getfield 32, 3) := by decide +kernel
theorem dX5_write_118 : decode cX5_write 118 = .ok (.iload_n 1, 1) := by decide +kernel
theorem dX5_write_119 : decode cX5_write 119 = .ok (.iaload, 1) := by decide +kernel
theorem dX5_write_120 : decode cX5_write 120 = .ok (.goto 4, 3) := by decide +kernel
theorem dX5_write_123 : decode cX5_write 123 = .ok (.iconst 0, 1) := by decide +kernel
theorem dX5_write_124 : decode cX5_write 124 = .ok (.ixor, 1) := by decide +kernel
theorem dX5_write_125 : decode cX5_write 125 = .ok (.iastore, 1) := by decide +kernel
theorem dX5_write_126 : decode cX5_write 126 = .ok (.iinc 7 1, 3) := by decide +kernel
theorem dX5_write_129 : decode cX5_write 129 = .ok (.goto (-63), 3) := by decide +kernel
theorem dX5_write_132 : decode cX5_write 132 = .ok (.iload 5, 2) := by decide +kernel
theorem dX5_write_134 : decode cX5_write 134 = .ok (.ifCond .eq 11, 3) := by decide +kernel
theorem dX5_write_137 : decode cX5_write 137 = .ok (.aload_n 0, 1) := by decide +kernel
theorem dX5_write_138 : decode cX5_write 138 = .ok (.getfield 29, 3) := by decide +kernel
theorem dX5_write_141 : decode cX5_write 141 = .ok (.iload_n 1, 1) := by decide +kernel
theorem dX5_write_142 : decode cX5_write 142 = .ok (.iconst (-1), 1) := by decide +kernel
theorem dX5_write_143 : decode cX5_write 143 = .ok (.iastore, 1) := by decide +kernel
theorem dX5_write_144 : decode cX5_write 144 = .ok (.return_, 1) := by decide +kernel
theorem dX5_write_145 : decode cX5_write 145 = .ok (.aload_n 0, 1) := by decide +kernel
theorem dX5_write_146 : decode cX5_write 146 = .ok (.getfield 53, 3) := by decide +kernel
theorem dX5_write_149 : decode cX5_write 149 = .ok (.iload_n 2, 1) := by decide +kernel
theorem dX5_write_150 : decode cX5_write 150 = .ok (.dup2, 1) := by decide +kernel
theorem dX5_write_151 : decode cX5_write 151 = .ok (.iaload, 1) := by decide +kernel
theorem dX5_write_152 : decode cX5_write 152 = .ok (.iconst 1, 1) := by decide +kernel
theorem dX5_write_153 : decode cX5_write 153 = .ok (.iadd, 1) := by decide +kernel
theorem dX5_write_154 : decode cX5_write 154 = .ok (.iastore, 1) := by decide +kernel
theorem dX5_write_155 : decode cX5_write 155 = .ok (.bipush 16, 2) := by decide +kernel
theorem dX5_write_157 : decode cX5_write 157 = .ok (.aload_n 0, 1) := by decide +kernel
theorem dX5_write_158 : decode cX5_write 158 = .ok (.getfield 53, 3) := by decide +kernel
theorem dX5_write_161 : decode cX5_write 161 = .ok (.iload_n 2, 1) := by decide +kernel
theorem dX5_write_162 : decode cX5_write 162 = .ok (.iaload, 1) := by decide +kernel
theorem dX5_write_163 : decode cX5_write 163 = .ok (.imul, 1) := by decide +kernel
theorem dX5_write_164 : decode cX5_write 164 = .ok (.aload_n 0, 1) := by decide +kernel
theorem dX5_write_165 : decode cX5_write 165 = .ok (.getfield 47, 3) := by decide +kernel
theorem dX5_write_168 : decode cX5_write 168 = .ok (.iload_n 2, 1) := by decide +kernel
theorem dX5_write_169 : decode cX5_write 169 = .ok (.iaload, 1) := by decide +kernel
theorem dX5_write_170 : decode cX5_write 170 = .ok (.if_icmp .ge 4, 3) := by decide +kernel
theorem dX5_write_173 : decode cX5_write 173 = .ok (.return_, 1) := by decide +kernel
theorem dX5_write_174 : decode cX5_write 174 = .ok (.aload_n 0, 1) := by decide +kernel
theorem dX5_write_175 : decode cX5_write 175 = .ok (.getfield 47, 3) := by decide +kernel
theorem dX5_write_178 : decode cX5_write 178 = .ok (.iload_n 2, 1) := by decide +kernel
theorem dX5_write_179 : decode cX5_write 179 = .ok (.iaload, 1) := by decide +kernel
theorem dX5_write_180 : decode cX5_write 180 = .ok (.istore 7, 2) := by decide +kernel
theorem dX5_write_182 : decode cX5_write 182 = .ok (.iload 7, 2) := by decide +kernel
theorem dX5_write_184 : decode cX5_write 184 = .ok (.sipush 256, 3) := by decide +kernel
theorem dX5_write_187 : decode cX5_write 187 = .ok (.if_icmp .ge 20, 3) := by decide +kernel
theorem dX5_write_190 : decode cX5_write 190 = .ok (.aload_n 0, 1) := by decide +kernel
theorem dX5_write_191 : decode cX5_write 191 = .ok (.getfield 38, 3) := by decide +kernel
theorem dX5_write_194 : decode cX5_write 194 = .ok (.iload 4, 2) := by decide +kernel
theorem dX5_write_196 : decode cX5_write 196 = .ok (.iload 7, 2) := by decide +kernel
theorem dX5_write_198 : decode cX5_write 198 = .ok (.iadd, 1) := by decide +kernel
theorem dX5_write_199 : decode cX5_write 199 = .ok (.iconst 0, 1) := by decide +kernel
theorem dX5_write_200 : decode cX5_write 200 = .ok (.iastore, 1) := by decide +kernel
theorem dX5_write_201 : decode cX5_write 201 = .ok (.iinc 7 1, 3) := by decide +kernel
theorem dX5_write_204 : decode cX5_write 204 = .ok (.goto (-22), 3) := by decide +kernel
theorem dX5_write_207 : decode cX5_write 207 = .ok (.aload_n 0, 1) := by decide +kernel
theorem dX5_write_208 : decode cX5_write 208 = .ok (.getfield 35, 3) := by decide +kernel
theorem dX5_write_211 : decode cX5_write 211 = .ok (.iconst 2, 1) := by decide +kernel
theorem dX5_write_212 : decode cX5_write 212 = .ok (.iload_n 1, 1) := by decide +kernel
theorem dX5_write_213 : decode cX5_write 213 = .ok (.imul, 1) := by decide +kernel
theorem dX5_write_214 : decode cX5_write 214 = .ok (.iload_n 3, 1) := by decide +kernel
theorem dX5_write_215 : decode cX5_write 215 = .ok (.iadd, 1) := by decide +kernel
theorem dX5_write_216 : decode cX5_write 216 = .ok (.aload_n 0, 1) := by decide +kernel
theorem dX5_write_217 : decode cX5_write 217 = .ok (.getfield 44, 3) := by decide +kernel
theorem dX5_write_220 : decode cX5_write 220 = .ok (.iload_n 2, 1) := by decide +kernel
theorem dX5_write_221 : decode cX5_write 221 = .ok (.iaload, 1) := by decide +kernel
theorem dX5_write_222 : decode cX5_write 222 = .ok (.iastore, 1) := by decide +kernel
theorem dX5_write_223 : decode cX5_write 223 = .ok (.aload_n 0, 1) := by decide +kernel
theorem dX5_write_224 : decode cX5_write 224 = .ok (.getfield 50, 3) := by decide +kernel
theorem dX5_write_227 : decode cX5_write 227 = .ok (.iload_n 2, 1) := by decide +kernel
theorem dX5_write_228 : decode cX5_write 228 = .ok (.iconst 2, 1) := by decide +kernel
theorem dX5_write_229 : decode cX5_write 229 = .ok (.iastore, 1) := by decide +kernel
theorem dX5_write_230 : decode cX5_write 230 = .ok (.aload_n 0, 1) := by decide +kernel
theorem dX5_write_231 : decode cX5_write 231 = .ok (.getfield 56, 3) := by decide +kernel
theorem dX5_write_234 : decode cX5_write 234 = .ok (.iload_n 2, 1) := by decide +kernel
theorem dX5_write_235 : decode cX5_write 235 = .ok (.iload_n 3, 1) := by decide +kernel
theorem dX5_write_236 : decode cX5_write 236 = .ok (.iastore, 1) := by decide +kernel
theorem dX5_write_237 : decode cX5_write 237 = .ok (.return_, 1) := by decide +kernel
set_option maxRecDepth 20000 in
theorem ggX5_allIn_X5_there : GoodIn wsX5_allIn wsX5_there := goodIn_ca (goodIn_r _ [9, 10, 11, 12, 13, 14, 15, 16, 17, 18, 19, 20, 21, 22, 23, 24, 25, 26, 27, 28, 29, 30, 31, 32, 33, 34, 35, 36, 37, 38, 39, 40, 41, 42, 43, 44, 45, 46, 47] (by decide +kernel) (by decide +kernel)) (goodIn_sub (fun _ h => List.mem_cons_of_mem _ (List.mem_append_right _ h)) (by decide +kernel))
set_option maxRecDepth 20000 in
theorem gX5_allIn_X5_there : GoodIn wsX5_allIn (wsV RX5 158 RX5 yX5_there wsX5_there) := goodIn_app (goodIn_of _ (by decide +kernel)) ggX5_allIn_X5_there
end
section
theorem dX5_allIn_0 : decode cX5_allIn 0 = .ok (.iconst 1, 1) := by decide +kernel
theorem dX5_allIn_1 : decode cX5_allIn 1 = .ok (.istore_n 3, 1) := by decide +kernel
theorem dX5_allIn_2 : decode cX5_allIn 2 = .ok (.iconst 1, 1) := by decide +kernel
theorem dX5_allIn_3 : decode cX5_allIn 3 = .ok (.istore 4, 2) := by decide +kernel
theorem dX5_allIn_5 : decode cX5_allIn 5 = .ok (.iload 4, 2) := by decide +kernel
theorem dX5_allIn_7 : decode cX5_allIn 7 = .ok (.aload_n 0, 1) := by decide +kernel
theorem dX5_allIn_8 : decode cX5_allIn 8 = .ok (.getfield 144, 3) := by decide +kernel
theorem dX5_allIn_11 : decode cX5_allIn 11 = .ok (.if_icmp .gt 60, 3) := by decide +kernel
theorem dX5_allIn_14 : decode cX5_allIn 14 = .ok (.iload_n 3, 1) := by decide +kernel
theorem dX5_allIn_15 : decode cX5_allIn 15 = .ok (.ifCond .eq 48, 3) := by decide +kernel
theorem dX5_allIn_18 : decode cX5_allIn 18 = .ok (.aload_n 0, 1) := by decide +kernel
theorem dX5_allIn_19 : decode cX5_allIn 19 = .ok (.getfield 59, 3) := by decide +kernel
theorem dX5_allIn_22 : decode cX5_allIn 22 = .ok (.iload 4, 2) := by decide +kernel
theorem dX5_allIn_24 : decode cX5_allIn 24 = .ok (.iaload, 1) := by decide +kernel
theorem dX5_allIn_25 : decode cX5_allIn 25 = .ok (.iload_n 1, 1) := by decide +kernel
theorem dX5_allIn_26 : decode cX5_allIn 26 = .ok (.if_icmp .ne 33, 3) := by decide +kernel
theorem dX5_allIn_29 : decode cX5_allIn 29 = .ok (.aload_n 0, 1) := by decide +kernel
theorem dX5_allIn_30 : decode cX5_allIn 30 = .ok (.getfield 50, 3) := by decide +kernel
theorem dX5_allIn_33 : decode cX5_allIn 33 = .ok (.iload 4, 2) := by decide +kernel
theorem dX5_allIn_35 : decode cX5_allIn 35 = .ok (.iaload, 1) := by decide +kernel
theorem dX5_allIn_36 : decode cX5_allIn 36 = .ok (.iload_n 2, 1) := by decide +kernel
theorem dX5_allIn_37 : decode cX5_allIn 37 = .ok (.if_icmp .ne 26, 3) := by decide +kernel
theorem dX5_allIn_40 : decode cX5_allIn 40 = .ok (.iload_n 2, 1) := by decide +kernel
theorem dX5_allIn_41 : decode cX5_allIn 41 = .ok (.iconst 2, 1) := by decide +kernel
theorem dX5_allIn_42 : decode cX5_allIn 42 = .ok (.if_icmp .ne 17, 3) := by decide +kernel
theorem dX5_allIn_45 : decode cX5_allIn 45 = .ok (.aload_n 0, 1) := by decide +kernel
theorem dX5_allIn_46 : decode cX5_allIn 46 = .ok (.aload_n 0, 1) := by decide +kernel
theorem dX5_allIn_47 : decode cX5_allIn 47 = .ok (.getfield 41, 3) := by decide +kernel
theorem dX5_allIn_50 : decode cX5_allIn 50 = .ok (.iload 4, 2) := by decide +kernel
theorem dX5_allIn_52 : decode cX5_allIn 52 = .ok (.iaload, 1) := by decide +kernel
theorem dX5_allIn_53 : decode cX5_allIn 53 = .ok (.invokevirtual 158, 3) := by decide +kernel
theorem dX5_allIn_56 : decode cX5_allIn 56 = .ok (.ifCond .eq 7, 3) := by decide +kernel
theorem dX5_allIn_59 : decode cX5_allIn 59 = .ok (.iconst 1, 1) := by decide +kernel
theorem dX5_allIn_60 : decode cX5_allIn 60 = .ok (.goto 4, 3) := by decide +kernel
theorem dX5_allIn_63 : decode cX5_allIn 63 = .ok (.iconst 0, 1) := by decide +kernel
theorem dX5_allIn_64 : decode cX5_allIn 64 = .ok (.istore_n 3, 1) := by decide +kernel
theorem dX5_allIn_65 : decode cX5_allIn 65 = .ok (.iinc 4 1, 3) := by decide +kernel
theorem dX5_allIn_68 : decode cX5_allIn 68 = .ok (.goto (-63), 3) := by decide +kernel
theorem dX5_allIn_71 : decode cX5_allIn 71 = .ok (.iload_n 3, 1) := by decide +kernel
theorem dX5_allIn_72 : decode cX5_allIn 72 = .ok (.ireturn, 1) := by decide +kernel
set_option maxRecDepth 20000 in
theorem ggX5_change_X5_allIn : GoodIn wsX5_change wsX5_allIn := goodIn_ca (goodIn_r _ [14, 8, 6, 5, 9, 15, 16, 17, 13, 18, 19, 20, 21, 22, 23, 24, 25, 26, 27, 28, 29, 30, 31, 32, 33, 34, 35, 36, 37, 38, 39, 40, 41, 42, 43, 44, 45, 46, 47, 48, 49, 50, 51, 52, 53, 54, 55, 56] (by decide +kernel) (by decide +kernel)) (goodIn_sub (fun _ h => List.mem_cons_of_mem _ (List.mem_append_right _ h)) (by decide +kernel))
set_option maxRecDepth 20000 in
theorem gX5_change_X5_allIn : GoodIn wsX5_change (wsV RX5 161 RX5 yX5_allIn wsX5_allIn) := goodIn_app (goodIn_of _ (by decide +kernel)) ggX5_change_X5_allIn
theorem dX5_change_0 : decode cX5_change 0 = .ok (.aload_n 0, 1) := by decide +kernel
theorem dX5_change_1 : decode cX5_change 1 = .ok (.getfield 19, 3) := by decide +kernel
theorem dX5_change_4 : decode cX5_change 4 = .ok (.iload_n 1, 1) := by decide +kernel
theorem dX5_change_5 : decode cX5_change 5 = .ok (.iaload, 1) := by decide +kernel
theorem dX5_change_6 : decode cX5_change 6 = .ok (.istore_n 2, 1) := by decide +kernel
theorem dX5_change_7 : decode cX5_change 7 = .ok (.aload_n 0, 1) := by decide +kernel
theorem dX5_change_8 : decode cX5_change 8 = .ok (.getfield 13, 3) := by decide +kernel
theorem dX5_change_11 : decode cX5_change 11 = .ok (.iload_n 1, 1) := by decide +kernel
theorem dX5_change_12 : decode cX5_change 12 = .ok (.iconst 1, 1) := by decide +kernel
theorem dX5_change_13 : decode cX5_change 13 = .ok (.aload_n 0, 1) := by decide +kernel
theorem dX5_change_14 : decode cX5_change 14 = .ok (.getfield 13, 3) := by decide +kernel
theorem dX5_change_17 : decode cX5_change 17 = .ok (.iload_n 1, 1) := by decide +kernel
theorem dX5_change_18 : decode cX5_change 18 = .ok (.iaload, 1) := by decide +kernel
theorem dX5_change_19 : decode cX5_change 19 = .ok (.isub, 1) := by decide +kernel
theorem dX5_change_20 : decode cX5_change 20 = .ok (.iastore, 1) := by decide +kernel
theorem dX5_change_21 : decode cX5_change 21 = .ok (.aload_n 0, 1) := by decide +kernel
theorem dX5_change_22 : decode cX5_change 22 = .ok (.getfield 16, 3) := by decide +kernel
theorem dX5_change_25 : decode cX5_change 25 = .ok (.iload_n 1, 1) := by decide +kernel
theorem dX5_change_26 : decode cX5_change 26 = .ok (.aload_n 0, 1) := by decide +kernel
theorem dX5_change_27 : decode cX5_change 27 = .ok (.getfield 35, 3) := by decide +kernel
theorem dX5_change_30 : decode cX5_change 30 = .ok (.iconst 2, 1) := by decide +kernel
theorem dX5_change_31 : decode cX5_change 31 = .ok (.iload_n 1, 1) := by decide +kernel
theorem dX5_change_32 : decode cX5_change 32 = .ok (.imul, 1) := by decide +kernel
theorem dX5_change_33 : decode cX5_change 33 = .ok (.aload_n 0, 1) := by decide +kernel
theorem dX5_change_34 : decode cX5_change 34 = .ok (.getfield 13, 3) := by decide +kernel
theorem dX5_change_37 : decode cX5_change 37 = .ok (.iload_n 1, 1) := by decide +kernel
theorem dX5_change_38 : decode cX5_change 38 = .ok (.iaload, 1) := by decide +kernel
theorem dX5_change_39 : decode cX5_change 39 = .ok (.iadd, 1) := by decide +kernel
theorem dX5_change_40 : decode cX5_change 40 = .ok (.iaload, 1) := by decide +kernel
theorem dX5_change_41 : decode cX5_change 41 = .ok (.iastore, 1) := by decide +kernel
theorem dX5_change_42 : decode cX5_change 42 = .ok (.aload_n 0, 1) := by decide +kernel
theorem dX5_change_43 : decode cX5_change 43 = .ok (.getfield 50, 3) := by decide +kernel
theorem dX5_change_46 : decode cX5_change 46 = .ok (.iload_n 2, 1) := by decide +kernel
theorem dX5_change_47 : decode cX5_change 47 = .ok (.iconst 3, 1) := by decide +kernel
theorem dX5_change_48 : decode cX5_change 48 = .ok (.iastore, 1) := by decide +kernel
theorem dX5_change_49 : decode cX5_change 49 = .ok (.aload_n 0, 1) := by decide +kernel
theorem dX5_change_50 : decode cX5_change 50 = .ok (.aload_n 0, 1) := by decide +kernel
theorem dX5_change_51 : decode cX5_change 51 = .ok (.getfield 59, 3) := by decide +kernel
theorem dX5_change_54 : decode cX5_change 54 = .ok (.iload_n 2, 1) := by decide +kernel
theorem dX5_change_55 : decode cX5_change 55 = .ok (.iaload, 1) := by decide +kernel
theorem dX5_change_56 : decode cX5_change 56 = .ok (.iconst 3, 1) := by decide +kernel
theorem dX5_change_57 : decode cX5_change 57 = .ok (.invokevirtual 161, 3) := by decide +kernel
theorem dX5_change_60 : decode cX5_change 60 = .ok (.ifCond .ne 4, 3) := by decide +kernel
theorem dX5_change_63 : decode cX5_change 63 = .ok (.return_, 1) := by decide +kernel
theorem dX5_change_64 : decode cX5_change 64 = .ok (.aload_n 0, 1) := by decide +kernel
theorem dX5_change_65 : decode cX5_change 65 = .ok (.aload_n 0, 1) := by decide +kernel
theorem dX5_change_66 : decode cX5_change 66 = .ok (.getfield 59, 3) := by decide +kernel
theorem dX5_change_69 : decode cX5_change 69 = .ok (.iload_n 2, 1) := by decide +kernel
theorem dX5_change_70 : decode cX5_change 70 = .ok (.iaload, 1) := by decide +kernel
theorem dX5_change_71 : decode cX5_change 71 = .ok (.putfield 165, 3) := by decide +kernel
theorem dX5_change_74 : decode cX5_change 74 = .ok (.iconst 1, 1) := by decide +kernel
theorem dX5_change_75 : decode cX5_change 75 = .ok (.istore_n 3, 1) := by decide +kernel
theorem dX5_change_76 : decode cX5_change 76 = .ok (.iload_n 3, 1) := by decide +kernel
theorem dX5_change_77 : decode cX5_change 77 = .ok (.aload_n 0, 1) := by decide +kernel
theorem dX5_change_78 : decode cX5_change 78 = .ok (.getfield 144, 3) := by decide +kernel
theorem dX5_change_81 : decode cX5_change 81 = .ok (.if_icmp .gt 34, 3) := by decide +kernel
theorem dX5_change_84 : decode cX5_change 84 = .ok (.aload_n 0, 1) := by decide +kernel
theorem dX5_change_85 : decode cX5_change 85 = .ok (.getfield 59, 3) := by decide +kernel
theorem dX5_change_88 : decode cX5_change 88 = .ok (.iload_n 3, 1) := by decide +kernel
theorem dX5_change_89 : decode cX5_change 89 = .ok (.iaload, 1) := by decide +kernel
theorem dX5_change_90 : decode cX5_change 90 = .ok (.aload_n 0, 1) := by decide +kernel
theorem dX5_change_91 : decode cX5_change 91 = .ok (.getfield 165, 3) := by decide +kernel
theorem dX5_change_94 : decode cX5_change 94 = .ok (.if_icmp .ne 15, 3) := by decide +kernel
theorem dX5_change_97 : decode cX5_change 97 = .ok (.aload_n 0, 1) := by decide +kernel
theorem dX5_change_98 : decode cX5_change 98 = .ok (.getfield 19, 3) := by decide +kernel
theorem dX5_change_101 : decode cX5_change 101 = .ok (.aload_n 0, 1) := by decide +kernel
theorem dX5_change_102 : decode cX5_change 102 = .ok (.getfield 41, 3) := by decide +kernel
theorem dX5_change_105 : decode cX5_change 105 = .ok (.iload_n 3, 1) := by decide +kernel
theorem dX5_change_106 : decode cX5_change 106 = .ok (.iaload, 1) := by decide +kernel
theorem dX5_change_107 : decode cX5_change 107 = .ok (.iconst 0, 1) := by decide +kernel
theorem dX5_change_108 : decode cX5_change 108 = .ok (.iastore, 1) := by decide +kernel
theorem dX5_change_109 : decode cX5_change 109 = .ok (.iinc 3 1, 3) := by decide +kernel
theorem dX5_change_112 : decode cX5_change 112 = .ok (.goto (-36), 3) := by decide +kernel
theorem dX5_change_115 : decode cX5_change 115 = .ok (.return_, 1) := by decide +kernel
set_option maxRecDepth 20000 in
theorem ggX5_step_X5_none : GoodIn wsX5_step wsX5_none := goodIn_r _ [8, 9, 10, 54, 55, 56, 57, 58, 59, 60, 61, 62, 63, 64, 65, 66, 67, 68, 69, 70, 71, 72, 73, 74, 75, 76, 77, 78, 79, 80, 81, 82, 83, 84, 85, 86, 87, 88, 89] (by decide +kernel) (by decide +kernel)
set_option maxRecDepth 20000 in
theorem gX5_step_X5_none : GoodIn wsX5_step (wsV RX5 136 RX5 yX5_none wsX5_none) := goodIn_app (goodIn_of _ (by decide +kernel)) ggX5_step_X5_none
set_option maxRecDepth 20000 in
theorem ggX5_step_X5_there : GoodIn wsX5_step wsX5_there := goodIn_ca (goodIn_r _ [14, 15, 16, 54, 55, 56, 57, 58, 59, 60, 61, 62, 63, 64, 65, 66, 67, 68, 69, 70, 71, 72, 73, 74, 75, 76, 77, 78, 79, 80, 81, 82, 83, 84, 85, 86, 87, 88, 89] (by decide +kernel) (by decide +kernel)) (goodIn_sub (fun _ h => List.mem_cons_of_mem _ (List.mem_append_right _ h)) (by decide +kernel))
set_option maxRecDepth 20000 in
theorem gX5_step_X5_there : GoodIn wsX5_step (wsV RX5 158 RX5 yX5_there wsX5_there) := goodIn_app (goodIn_of _ (by decide +kernel)) ggX5_step_X5_there
set_option maxRecDepth 20000 in
theorem ggX5_step_X5_stateOf : GoodIn wsX5_step wsX5_stateOf := goodIn_ca (goodIn_r _ [20, 1, 21, 54, 55, 56, 57, 58, 59, 60, 61, 62, 63, 64, 65, 66, 67, 68, 69, 70, 71, 72, 73, 74, 75, 76, 77, 78, 79, 80, 81, 82, 83, 84, 85, 86, 87, 88, 89] (by decide +kernel) (by decide +kernel)) (goodIn_sub (fun _ h => List.mem_cons_of_mem _ (List.mem_append_right _ h)) (by decide +kernel))
set_option maxRecDepth 20000 in
theorem gX5_step_X5_stateOf : GoodIn wsX5_step (wsV RX5 140 RX5 yX5_stateOf wsX5_stateOf) := goodIn_app (goodIn_of _ (by decide +kernel)) ggX5_step_X5_stateOf
set_option maxRecDepth 20000 in
theorem ggX5_step_X5_hold : GoodIn wsX5_step wsX5_hold := goodIn_r _ [25, 26, 27, 54, 55, 56, 57, 58, 59, 60, 61, 62, 63, 64, 65, 66, 67, 68, 69, 70, 71, 72, 73, 74, 75, 76, 77, 78, 79, 80, 81, 82, 83, 84, 85, 86, 87, 88, 89] (by decide +kernel) (by decide +kernel)
set_option maxRecDepth 20000 in
theorem gX5_step_X5_hold : GoodIn wsX5_step (wsV RX5 154 RX5 yX5_hold wsX5_hold) := goodIn_app (goodIn_of _ (by decide +kernel)) ggX5_step_X5_hold
set_option maxRecDepth 20000 in
theorem ggX5_step_X5_write : GoodIn wsX5_step wsX5_write := goodIn_ca (goodIn_r _ [31, 1, 32, 33, 34, 35, 36, 37, 38, 39, 40, 21, 41, 54, 55, 56, 57, 58, 59, 60, 61, 62, 63, 64, 65, 66, 67, 68, 69, 70, 71, 72, 73, 74, 75, 76, 77, 78, 79, 80, 81, 82, 83, 84, 85, 86, 87, 88, 89] (by decide +kernel) (by decide +kernel)) (goodIn_sub (fun _ h => List.mem_cons_of_mem _ (List.mem_append_right _ h)) (by decide +kernel))
set_option maxRecDepth 20000 in
theorem gX5_step_X5_write : GoodIn wsX5_step (wsV RX5 168 RX5 yX5_write wsX5_write) := goodIn_app (goodIn_of _ (by decide +kernel)) ggX5_step_X5_write
set_option maxRecDepth 20000 in
theorem ggX5_step_X5_change : GoodIn wsX5_step wsX5_change := goodIn_ca (goodIn_r _ [45, 1, 32, 46, 39, 21, 3, 47, 48, 49, 50, 51, 52, 7, 53, 11, 12, 13, 14, 15, 16, 54, 55, 56, 57, 58, 59, 60, 61, 62, 63, 64, 65, 66, 67, 68, 69, 70, 71, 72, 73, 74, 75, 76, 77, 78, 79, 80, 81, 82, 83, 84, 85, 86, 87, 88, 89] (by decide +kernel) (by decide +kernel)) (goodIn_sub (fun _ h => List.mem_cons_of_mem _ (List.mem_append_right _ h)) (by decide +kernel))
set_option maxRecDepth 20000 in
theorem gX5_step_X5_change : GoodIn wsX5_step (wsV RX5 171 RX5 yX5_change wsX5_change) := goodIn_app (goodIn_of _ (by decide +kernel)) ggX5_step_X5_change
set_option maxRecDepth 20000 in
theorem ggX5_step_X5_allIn : GoodIn wsX5_step wsX5_allIn := goodIn_ca (goodIn_r _ [53, 48, 3, 21, 49, 11, 12, 13, 7, 14, 15, 16, 54, 55, 56, 57, 58, 59, 60, 61, 62, 63, 64, 65, 66, 67, 68, 69, 70, 71, 72, 73, 74, 75, 76, 77, 78, 79, 80, 81, 82, 83, 84, 85, 86, 87, 88, 89] (by decide +kernel) (by decide +kernel)) (goodIn_sub (fun _ h => List.mem_cons_of_mem _ (List.mem_append_right _ h)) (by decide +kernel))
set_option maxRecDepth 20000 in
theorem gX5_step_X5_allIn : GoodIn wsX5_step (wsV RX5 161 RX5 yX5_allIn wsX5_allIn) := goodIn_app (goodIn_of _ (by decide +kernel)) ggX5_step_X5_allIn
theorem dX5_step_0 : decode cX5_step 0 = .ok (.aload_n 0, 1) := by decide +kernel
theorem dX5_step_1 : decode cX5_step 1 = .ok (.iload_n 1, 1) := by decide +kernel
theorem dX5_step_2 : decode cX5_step 2 = .ok (.invokevirtual 136, 3) := by decide +kernel
theorem dX5_step_5 : decode cX5_step 5 = .ok (.ifCond .eq 5, 3) := by decide +kernel
theorem dX5_step_8 : decode cX5_step 8 = .ok (.iconst (-1), 1) := by decide +kernel
theorem dX5_step_9 : decode cX5_step 9 = .ok (.ireturn, 1) := by decide +kernel
theorem dX5_step_10 : decode cX5_step 10 = .ok (.aload_n 0, 1) := by decide +kernel
theorem dX5_step_11 : decode cX5_step 11 = .ok (.iload_n 1, 1) := by decide +kernel
theorem dX5_step_12 : decode cX5_step 12 = .ok (.invokevirtual 158, 3) := by decide +kernel
theorem dX5_step_15 : decode cX5_step 15 = .ok (.ifCond .ne 6, 3) := by decide +kernel
theorem dX5_step_18 : decode cX5_step 18 = .ok (.bipush (-3), 2) := by decide +kernel
theorem dX5_step_20 : decode cX5_step 20 = .ok (.ireturn, 1) := by decide +kernel
theorem dX5_step_21 : decode cX5_step 21 = .ok (.aload_n 0, 1) := by decide +kernel
theorem dX5_step_22 : decode cX5_step 22 = .ok (.getfield 19, 3) := by decide +kernel
theorem dX5_step_25 : decode cX5_step 25 = .ok (.iload_n 1, 1) := by decide +kernel
theorem dX5_step_26 : decode cX5_step 26 = .ok (.iaload, 1) := by decide +kernel
theorem dX5_step_27 : decode cX5_step 27 = .ok (.istore_n 2, 1) := by decide +kernel
theorem dX5_step_28 : decode cX5_step 28 = .ok (.aload_n 0, 1) := by decide +kernel
theorem dX5_step_29 : decode cX5_step 29 = .ok (.iload_n 1, 1) := by decide +kernel
theorem dX5_step_30 : decode cX5_step 30 = .ok (.invokevirtual 140, 3) := by decide +kernel
theorem dX5_step_33 : decode cX5_step 33 = .ok (.iconst 1, 1) := by decide +kernel
theorem dX5_step_34 : decode cX5_step 34 = .ok (.if_icmp .ne 18, 3) := by decide +kernel
theorem dX5_step_37 : decode cX5_step 37 = .ok (.aload_n 0, 1) := by decide +kernel
theorem dX5_step_38 : decode cX5_step 38 = .ok (.invokevirtual 154, 3) := by decide +kernel
theorem dX5_step_41 : decode cX5_step 41 = .ok (.ifCond .eq 11, 3) := by decide +kernel
theorem dX5_step_44 : decode cX5_step 44 = .ok (.aload_n 0, 1) := by decide +kernel
theorem dX5_step_45 : decode cX5_step 45 = .ok (.iload_n 1, 1) := by decide +kernel
theorem dX5_step_46 : decode cX5_step 46 = .ok (.invokevirtual 168, 3) := by decide +kernel
theorem dX5_step_49 : decode cX5_step 49 = .ok (.goto 79, 3) := by decide +kernel
theorem dX5_step_52 : decode cX5_step 52 = .ok (.aload_n 0, 1) := by decide +kernel
theorem dX5_step_53 : decode cX5_step 53 = .ok (.iload_n 1, 1) := by decide +kernel
theorem dX5_step_54 : decode cX5_step 54 = .ok (.invokevirtual 140, 3) := by decide +kernel
theorem dX5_step_57 : decode cX5_step 57 = .ok (.iconst 2, 1) := by decide +kernel
theorem dX5_step_58 : decode cX5_step 58 = .ok (.if_icmp .ne 24, 3) := by decide +kernel
theorem dX5_step_61 : decode cX5_step 61 = .ok (.aload_n 0, 1) := by decide +kernel
theorem dX5_step_62 : decode cX5_step 62 = .ok (.getfield 62, 3) := by decide +kernel
theorem dX5_step_65 : decode cX5_step 65 = .ok (.aload_n 0, 1) := by decide +kernel
theorem dX5_step_66 : decode cX5_step 66 = .ok (.getfield 59, 3) := by decide +kernel
theorem dX5_step_69 : decode cX5_step 69 = .ok (.iload_n 2, 1) := by decide +kernel
theorem dX5_step_70 : decode cX5_step 70 = .ok (.iaload, 1) := by decide +kernel
theorem dX5_step_71 : decode cX5_step 71 = .ok (.baload, 1) := by decide +kernel
theorem dX5_step_72 : decode cX5_step 72 = .ok (.ifCond .eq 10, 3) := by decide +kernel
theorem dX5_step_75 : decode cX5_step 75 = .ok (.aload_n 0, 1) := by decide +kernel
theorem dX5_step_76 : decode cX5_step 76 = .ok (.iload_n 1, 1) := by decide +kernel
theorem dX5_step_77 : decode cX5_step 77 = .ok (.invokevirtual 171, 3) := by decide +kernel
theorem dX5_step_80 : decode cX5_step 80 = .ok (.iconst 3, 1) := by decide +kernel
theorem dX5_step_81 : decode cX5_step 81 = .ok (.ireturn, 1) := by decide +kernel
theorem dX5_step_82 : decode cX5_step 82 = .ok (.aload_n 0, 1) := by decide +kernel
theorem dX5_step_83 : decode cX5_step 83 = .ok (.iload_n 1, 1) := by decide +kernel
theorem dX5_step_84 : decode cX5_step 84 = .ok (.invokevirtual 140, 3) := by decide +kernel
theorem dX5_step_87 : decode cX5_step 87 = .ok (.iconst 2, 1) := by decide +kernel
theorem dX5_step_88 : decode cX5_step 88 = .ok (.if_icmp .ne 40, 3) := by decide +kernel
theorem dX5_step_91 : decode cX5_step 91 = .ok (.aload_n 0, 1) := by decide +kernel
theorem dX5_step_92 : decode cX5_step 92 = .ok (.getfield 62, 3) := by decide +kernel
theorem dX5_step_95 : decode cX5_step 95 = .ok (.aload_n 0, 1) := by decide +kernel
theorem dX5_step_96 : decode cX5_step 96 = .ok (.getfield 59, 3) := by decide +kernel
theorem dX5_step_99 : decode cX5_step 99 = .ok (.iload_n 2, 1) := by decide +kernel
theorem dX5_step_100 : decode cX5_step 100 = .ok (.iaload, 1) := by decide +kernel
theorem dX5_step_101 : decode cX5_step 101 = .ok (.aload_n 0, 1) := by decide +kernel
theorem dX5_step_102 : decode cX5_step 102 = .ok (.invokevirtual 154, 3) := by decide +kernel
theorem dX5_step_105 : decode cX5_step 105 = .ok (.ifCond .eq 21, 3) := by decide +kernel
theorem dX5_step_108 : decode cX5_step 108 = .ok (.aload_n 0, 1) := by decide +kernel
theorem dX5_step_109 : decode cX5_step 109 = .ok (.aload_n 0, 1) := by decide +kernel
theorem dX5_step_110 : decode cX5_step 110 = .ok (.getfield 59, 3) := by decide +kernel
theorem dX5_step_113 : decode cX5_step 113 = .ok (.iload_n 2, 1) := by decide +kernel
theorem dX5_step_114 : decode cX5_step 114 = .ok (.iaload, 1) := by decide +kernel
theorem dX5_step_115 : decode cX5_step 115 = .ok (.iconst 2, 1) := by decide +kernel
theorem dX5_step_116 : decode cX5_step 116 = .ok (.invokevirtual 161, 3) := by decide +kernel
theorem dX5_step_119 : decode cX5_step 119 = .ok (.ifCond .eq 7, 3) := by decide +kernel
theorem dX5_step_122 : decode cX5_step 122 = .ok (.iconst 1, 1) := by decide +kernel
theorem dX5_step_123 : decode cX5_step 123 = .ok (.goto 4, 3) := by decide +kernel
theorem dX5_step_126 : decode cX5_step 126 = .ok (.iconst 0, 1) := by decide +kernel
theorem dX5_step_127 : decode cX5_step 127 = .ok (.bastore, 1) := by decide +kernel
theorem dX5_step_128 : decode cX5_step 128 = .ok (.aload_n 0, 1) := by decide +kernel
theorem dX5_step_129 : decode cX5_step 129 = .ok (.iload_n 1, 1) := by decide +kernel
theorem dX5_step_130 : decode cX5_step 130 = .ok (.invokevirtual 140, 3) := by decide +kernel
theorem dX5_step_133 : decode cX5_step 133 = .ok (.ireturn, 1) := by decide +kernel
set_option maxRecDepth 20000 in
theorem ggX5_cut_X5_stateOf : GoodIn wsX5_cut wsX5_stateOf := goodIn_ca (goodIn_r _ [10, 5, 11, 12, 13, 14, 15, 16, 17, 18, 19, 20, 21, 22, 23, 24, 25, 26, 27, 28, 29, 30, 31, 32, 33, 34, 35, 36, 37, 38, 39, 40, 41, 42, 43, 44, 45, 46, 47] (by decide +kernel) (by decide +kernel)) (goodIn_sub (fun _ h => List.mem_cons_of_mem _ (List.mem_append_right _ h)) (by decide +kernel))
set_option maxRecDepth 20000 in
theorem gX5_cut_X5_stateOf : GoodIn wsX5_cut (wsV RX5 140 RX5 yX5_stateOf wsX5_stateOf) := goodIn_app (goodIn_of _ (by decide +kernel)) ggX5_cut_X5_stateOf
theorem dX5_cut_0 : decode cX5_cut 0 = .ok (.aload_n 0, 1) := by decide +kernel
theorem dX5_cut_1 : decode cX5_cut 1 = .ok (.iconst 0, 1) := by decide +kernel
theorem dX5_cut_2 : decode cX5_cut 2 = .ok (.putfield 99, 3) := by decide +kernel
theorem dX5_cut_5 : decode cX5_cut 5 = .ok (.iconst 0, 1) := by decide +kernel
theorem dX5_cut_6 : decode cX5_cut 6 = .ok (.istore_n 1, 1) := by decide +kernel
theorem dX5_cut_7 : decode cX5_cut 7 = .ok (.iconst 1, 1) := by decide +kernel
theorem dX5_cut_8 : decode cX5_cut 8 = .ok (.istore_n 2, 1) := by decide +kernel
theorem dX5_cut_9 : decode cX5_cut 9 = .ok (.iload_n 2, 1) := by decide +kernel
theorem dX5_cut_10 : decode cX5_cut 10 = .ok (.aload_n 0, 1) := by decide +kernel
theorem dX5_cut_11 : decode cX5_cut 11 = .ok (.getfield 123, 3) := by decide +kernel
theorem dX5_cut_14 : decode cX5_cut 14 = .ok (.if_icmp .gt 71, 3) := by decide +kernel
theorem dX5_cut_17 : decode cX5_cut 17 = .ok (.aload_n 0, 1) := by decide +kernel
theorem dX5_cut_18 : decode cX5_cut 18 = .ok (.getfield 22, 3) := by decide +kernel
theorem dX5_cut_21 : decode cX5_cut 21 = .ok (.iload_n 2, 1) := by decide +kernel
theorem dX5_cut_22 : decode cX5_cut 22 = .ok (.baload, 1) := by decide +kernel
theorem dX5_cut_23 : decode cX5_cut 23 = .ok (.ifCond .eq 7, 3) := by decide +kernel
theorem dX5_cut_26 : decode cX5_cut 26 = .ok (.iload_n 1, 1) := by decide +kernel
theorem dX5_cut_27 : decode cX5_cut 27 = .ok (.goto 6, 3) := by decide +kernel
theorem dX5_cut_30 : decode cX5_cut 30 = .ok (.iload_n 1, 1) := by decide +kernel
theorem dX5_cut_31 : decode cX5_cut 31 = .ok (.iconst 1, 1) := by decide +kernel
theorem dX5_cut_32 : decode cX5_cut 32 = .ok (.iadd, 1) := by decide +kernel
theorem dX5_cut_33 : decode cX5_cut 33 = .ok (.istore_n 1, 1) := by decide +kernel
theorem dX5_cut_34 : decode cX5_cut 34 = .ok (.aload_n 0, 1) := by decide +kernel
theorem dX5_cut_35 : decode cX5_cut 35 = .ok (.getfield 22, 3) := by decide +kernel
theorem dX5_cut_38 : decode cX5_cut 38 = .ok (.iload_n 2, 1) := by decide +kernel
theorem dX5_cut_39 : decode cX5_cut 39 = .ok (.iconst 1, 1) := by decide +kernel
theorem dX5_cut_40 : decode cX5_cut 40 = .ok (.bastore, 1) := by decide +kernel
theorem dX5_cut_41 : decode cX5_cut 41 = .ok (.aload_n 0, 1) := by decide +kernel
theorem dX5_cut_42 : decode cX5_cut 42 = .ok (.iload_n 2, 1) := by decide +kernel
theorem dX5_cut_43 : decode cX5_cut 43 = .ok (.invokevirtual 140, 3) := by decide +kernel
theorem dX5_cut_46 : decode cX5_cut 46 = .ok (.iconst 1, 1) := by decide +kernel
theorem dX5_cut_47 : decode cX5_cut 47 = .ok (.if_icmp .ne 32, 3) := by decide +kernel
theorem dX5_cut_50 : decode cX5_cut 50 = .ok (.aload_n 0, 1) := by decide +kernel
theorem dX5_cut_51 : decode cX5_cut 51 = .ok (.getfield 53, 3) := by decide +kernel
theorem dX5_cut_54 : decode cX5_cut 54 = .ok (.aload_n 0, 1) := by decide +kernel
theorem dX5_cut_55 : decode cX5_cut 55 = .ok (.getfield 19, 3) := by decide +kernel
theorem dX5_cut_58 : decode cX5_cut 58 = .ok (.iload_n 2, 1) := by decide +kernel
theorem dX5_cut_59 : decode cX5_cut 59 = .ok (.iaload, 1) := by decide +kernel
theorem dX5_cut_60 : decode cX5_cut 60 = .ok (.iaload, 1) := by decide +kernel
theorem dX5_cut_61 : decode cX5_cut 61 = .ok (.ifCond .le 18, 3) := by decide +kernel
theorem dX5_cut_64 : decode cX5_cut 64 = .ok (.aload_n 0, 1) := by decide +kernel
theorem dX5_cut_65 : decode cX5_cut 65 = .ok (.getfield 53, 3) := by decide +kernel
theorem dX5_cut_68 : decode cX5_cut 68 = .ok (.aload_n 0, 1) := by decide +kernel
theorem dX5_cut_69 : decode cX5_cut 69 = .ok (.getfield 19, 3) := by decide +kernel
theorem dX5_cut_72 : decode cX5_cut 72 = .ok (.iload_n 2, 1) := by decide +kernel
theorem dX5_cut_73 : decode cX5_cut 73 = .ok (.iaload, 1) := by decide +kernel
theorem dX5_cut_74 : decode cX5_cut 74 = .ok (.dup2, 1) := by decide +kernel
theorem dX5_cut_75 : decode cX5_cut 75 = .ok (.iaload, 1) := by decide +kernel
theorem dX5_cut_76 : decode cX5_cut 76 = .ok (.iconst 1, 1) := by decide +kernel
theorem dX5_cut_77 : decode cX5_cut 77 = .ok (.isub, 1) := by decide +kernel
theorem dX5_cut_78 : decode cX5_cut 78 = .ok (.iastore, 1) := by decide +kernel
theorem dX5_cut_79 : decode cX5_cut 79 = .ok (.iinc 2 1, 3) := by decide +kernel
theorem dX5_cut_82 : decode cX5_cut 82 = .ok (.goto (-73), 3) := by decide +kernel
theorem dX5_cut_85 : decode cX5_cut 85 = .ok (.iload_n 1, 1) := by decide +kernel
theorem dX5_cut_86 : decode cX5_cut 86 = .ok (.ireturn, 1) := by decide +kernel
set_option maxRecDepth 20000 in
theorem ggX5_boot_X5_none : GoodIn wsX5_boot wsX5_none := goodIn_r _ [11, 12, 13, 36, 37, 38, 39, 40, 41, 42, 43, 44, 45, 46, 47, 48, 49, 50, 51, 52, 53, 54, 55, 56, 57, 58, 59, 60, 61, 62, 63, 64, 65, 66, 67, 68, 69, 70, 71] (by decide +kernel) (by decide +kernel)
set_option maxRecDepth 20000 in
theorem gX5_boot_X5_none : GoodIn wsX5_boot (wsV RX5 136 RX5 yX5_none wsX5_none) := goodIn_app (goodIn_of _ (by decide +kernel)) ggX5_boot_X5_none
set_option maxRecDepth 20000 in
theorem ggX5_boot_X5_stateOf : GoodIn wsX5_boot wsX5_stateOf := goodIn_ca (goodIn_r _ [17, 4, 18, 36, 37, 38, 39, 40, 41, 42, 43, 44, 45, 46, 47, 48, 49, 50, 51, 52, 53, 54, 55, 56, 57, 58, 59, 60, 61, 62, 63, 64, 65, 66, 67, 68, 69, 70, 71] (by decide +kernel) (by decide +kernel)) (goodIn_sub (fun _ h => List.mem_cons_of_mem _ (List.mem_append_right _ h)) (by decide +kernel))
set_option maxRecDepth 20000 in
theorem gX5_boot_X5_stateOf : GoodIn wsX5_boot (wsV RX5 140 RX5 yX5_stateOf wsX5_stateOf) := goodIn_app (goodIn_of _ (by decide +kernel)) ggX5_boot_X5_stateOf
set_option maxRecDepth 20000 in
theorem ggX5_boot_X5_change : GoodIn wsX5_boot wsX5_change := goodIn_ca (goodIn_r _ [22, 4, 6, 23, 5, 18, 3, 24, 25, 26, 27, 28, 29, 10, 30, 31, 32, 33, 34, 1, 35, 36, 37, 38, 39, 40, 41, 42, 43, 44, 45, 46, 47, 48, 49, 50, 51, 52, 53, 54, 55, 56, 57, 58, 59, 60, 61, 62, 63, 64, 65, 66, 67, 68, 69, 70, 71] (by decide +kernel) (by decide +kernel)) (goodIn_sub (fun _ h => List.mem_cons_of_mem _ (List.mem_append_right _ h)) (by decide +kernel))
set_option maxRecDepth 20000 in
theorem gX5_boot_X5_change : GoodIn wsX5_boot (wsV RX5 171 RX5 yX5_change wsX5_change) := goodIn_app (goodIn_of _ (by decide +kernel)) ggX5_boot_X5_change
theorem dX5_boot_0 : decode cX5_boot 0 = .ok (.aload_n 0, 1) := by decide +kernel
theorem dX5_boot_1 : decode cX5_boot 1 = .ok (.iload_n 1, 1) := by decide +kernel
theorem dX5_boot_2 : decode cX5_boot 2 = .ok (.invokevirtual 136, 3) := by decide +kernel
theorem dX5_boot_5 : decode cX5_boot 5 = .ok (.ifCond .eq 5, 3) := by decide +kernel
theorem dX5_boot_8 : decode cX5_boot 8 = .ok (.iconst (-1), 1) := by decide +kernel
theorem dX5_boot_9 : decode cX5_boot 9 = .ok (.ireturn, 1) := by decide +kernel
theorem dX5_boot_10 : decode cX5_boot 10 = .ok (.aload_n 0, 1) := by decide +kernel
theorem dX5_boot_11 : decode cX5_boot 11 = .ok (.getfield 22, 3) := by decide +kernel
theorem dX5_boot_14 : decode cX5_boot 14 = .ok (.iload_n 1, 1) := by decide +kernel
theorem dX5_boot_15 : decode cX5_boot 15 = .ok (.baload, 1) := by decide +kernel
theorem dX5_boot_16 : decode cX5_boot 16 = .ok (.istore_n 2, 1) := by decide +kernel
theorem dX5_boot_17 : decode cX5_boot 17 = .ok (.aload_n 0, 1) := by decide +kernel
theorem dX5_boot_18 : decode cX5_boot 18 = .ok (.getfield 22, 3) := by decide +kernel
theorem dX5_boot_21 : decode cX5_boot 21 = .ok (.iload_n 1, 1) := by decide +kernel
theorem dX5_boot_22 : decode cX5_boot 22 = .ok (.iconst 0, 1) := by decide +kernel
theorem dX5_boot_23 : decode cX5_boot 23 = .ok (.bastore, 1) := by decide +kernel
theorem dX5_boot_24 : decode cX5_boot 24 = .ok (.iload_n 2, 1) := by decide +kernel
theorem dX5_boot_25 : decode cX5_boot 25 = .ok (.ifCond .eq 36, 3) := by decide +kernel
theorem dX5_boot_28 : decode cX5_boot 28 = .ok (.aload_n 0, 1) := by decide +kernel
theorem dX5_boot_29 : decode cX5_boot 29 = .ok (.iload_n 1, 1) := by decide +kernel
theorem dX5_boot_30 : decode cX5_boot 30 = .ok (.invokevirtual 140, 3) := by decide +kernel
theorem dX5_boot_33 : decode cX5_boot 33 = .ok (.iconst 2, 1) := by decide +kernel
theorem dX5_boot_34 : decode cX5_boot 34 = .ok (.if_icmp .ne 27, 3) := by decide +kernel
theorem dX5_boot_37 : decode cX5_boot 37 = .ok (.aload_n 0, 1) := by decide +kernel
theorem dX5_boot_38 : decode cX5_boot 38 = .ok (.getfield 62, 3) := by decide +kernel
theorem dX5_boot_41 : decode cX5_boot 41 = .ok (.aload_n 0, 1) := by decide +kernel
theorem dX5_boot_42 : decode cX5_boot 42 = .ok (.getfield 59, 3) := by decide +kernel
theorem dX5_boot_45 : decode cX5_boot 45 = .ok (.aload_n 0, 1) := by decide +kernel
theorem dX5_boot_46 : decode cX5_boot 46 = .ok (.getfield 19, 3) := by decide +kernel
theorem dX5_boot_49 : decode cX5_boot 49 = .ok (.iload_n 1, 1) := by decide +kernel
theorem dX5_boot_50 : decode cX5_boot 50 = .ok (.iaload, 1) := by decide +kernel
theorem dX5_boot_51 : decode cX5_boot 51 = .ok (.iaload, 1) := by decide +kernel
theorem dX5_boot_52 : decode cX5_boot 52 = .ok (.baload, 1) := by decide +kernel
theorem dX5_boot_53 : decode cX5_boot 53 = .ok (.ifCond .eq 8, 3) := by decide +kernel
theorem dX5_boot_56 : decode cX5_boot 56 = .ok (.aload_n 0, 1) := by decide +kernel
theorem dX5_boot_57 : decode cX5_boot 57 = .ok (.iload_n 1, 1) := by decide +kernel
theorem dX5_boot_58 : decode cX5_boot 58 = .ok (.invokevirtual 171, 3) := by decide +kernel
theorem dX5_boot_61 : decode cX5_boot 61 = .ok (.aload_n 0, 1) := by decide +kernel
theorem dX5_boot_62 : decode cX5_boot 62 = .ok (.getfield 35, 3) := by decide +kernel
theorem dX5_boot_65 : decode cX5_boot 65 = .ok (.iconst 2, 1) := by decide +kernel
theorem dX5_boot_66 : decode cX5_boot 66 = .ok (.iload_n 1, 1) := by decide +kernel
theorem dX5_boot_67 : decode cX5_boot 67 = .ok (.imul, 1) := by decide +kernel
theorem dX5_boot_68 : decode cX5_boot 68 = .ok (.aload_n 0, 1) := by decide +kernel
theorem dX5_boot_69 : decode cX5_boot 69 = .ok (.getfield 13, 3) := by decide +kernel
theorem dX5_boot_72 : decode cX5_boot 72 = .ok (.iload_n 1, 1) := by decide +kernel
theorem dX5_boot_73 : decode cX5_boot 73 = .ok (.iaload, 1) := by decide +kernel
theorem dX5_boot_74 : decode cX5_boot 74 = .ok (.iadd, 1) := by decide +kernel
theorem dX5_boot_75 : decode cX5_boot 75 = .ok (.iaload, 1) := by decide +kernel
theorem dX5_boot_76 : decode cX5_boot 76 = .ok (.ireturn, 1) := by decide +kernel
set_option maxRecDepth 20000 in
theorem ggX5_bank_X5_none : GoodIn wsX5_bank wsX5_none := goodIn_r _ [8, 2, 9, 10, 11, 12, 13, 14, 15, 16, 17, 18, 19, 20, 21, 22, 23, 24, 25, 26, 27, 28, 29, 30, 31, 32, 33, 34, 35, 36, 37, 38, 39, 40, 41, 42, 43, 44, 45] (by decide +kernel) (by decide +kernel)
set_option maxRecDepth 20000 in
theorem gX5_bank_X5_none : GoodIn wsX5_bank (wsV RX5 136 RX5 yX5_none wsX5_none) := goodIn_app (goodIn_of _ (by decide +kernel)) ggX5_bank_X5_none
theorem dX5_bank_0 : decode cX5_bank 0 = .ok (.aload_n 0, 1) := by decide +kernel
theorem dX5_bank_1 : decode cX5_bank 1 = .ok (.iload_n 1, 1) := by decide +kernel
theorem dX5_bank_2 : decode cX5_bank 2 = .ok (.invokevirtual 136, 3) := by decide +kernel
theorem dX5_bank_5 : decode cX5_bank 5 = .ok (.ifCond .eq 5, 3) := by decide +kernel
theorem dX5_bank_8 : decode cX5_bank 8 = .ok (.iconst 0, 1) := by decide +kernel
theorem dX5_bank_9 : decode cX5_bank 9 = .ok (.ireturn, 1) := by decide +kernel
theorem dX5_bank_10 : decode cX5_bank 10 = .ok (.aload_n 0, 1) := by decide +kernel
theorem dX5_bank_11 : decode cX5_bank 11 = .ok (.iload_n 2, 1) := by decide +kernel
theorem dX5_bank_12 : decode cX5_bank 12 = .ok (.ifCond .lt 22, 3) := by decide +kernel
theorem dX5_bank_15 : decode cX5_bank 15 = .ok (.iload_n 2, 1) := by decide +kernel
theorem dX5_bank_16 : decode cX5_bank 16 = .ok (.iconst 1, 1) := by decide +kernel
theorem dX5_bank_17 : decode cX5_bank 17 = .ok (.if_icmp .gt 17, 3) := by decide +kernel
theorem dX5_bank_20 : decode cX5_bank 20 = .ok (.lload_n 3, 1) := by decide +kernel
theorem dX5_bank_21 : decode cX5_bank 21 = .ok (.lconst 0, 1) := by decide +kernel
theorem dX5_bank_22 : decode cX5_bank 22 = .ok (.lcmp, 1) := by decide +kernel
theorem dX5_bank_23 : decode cX5_bank 23 = .ok (.ifCond .lt 11, 3) := by decide +kernel
theorem dX5_bank_26 : decode cX5_bank 26 = .ok (.lload_n 3, 1) := by decide +kernel
theorem dX5_bank_27 : decode cX5_bank 27 = .ok (.ldc2_w 174, 3) := by decide +kernel
theorem dX5_bank_30 : decode cX5_bank 30 = .ok (.lcmp, 1) := by decide +kernel
theorem dX5_bank_31 : decode cX5_bank 31 = .ok (.ifCond .le 7, 3) := by decide +kernel
theorem dX5_bank_34 : decode cX5_bank 34 = .ok (.iconst 1, 1) := by decide +kernel
theorem dX5_bank_35 : decode cX5_bank 35 = .ok (.goto 4, 3) := by decide +kernel
theorem dX5_bank_38 : decode cX5_bank 38 = .ok (.iconst 0, 1) := by decide +kernel
theorem dX5_bank_39 : decode cX5_bank 39 = .ok (.putfield 99, 3) := by decide +kernel
theorem dX5_bank_42 : decode cX5_bank 42 = .ok (.aload_n 0, 1) := by decide +kernel
theorem dX5_bank_43 : decode cX5_bank 43 = .ok (.getfield 99, 3) := by decide +kernel
theorem dX5_bank_46 : decode cX5_bank 46 = .ok (.ifCond .le 7, 3) := by decide +kernel
theorem dX5_bank_49 : decode cX5_bank 49 = .ok (.iconst 0, 1) := by decide +kernel
theorem dX5_bank_50 : decode cX5_bank 50 = .ok (.goto 23, 3) := by decide +kernel
theorem dX5_bank_53 : decode cX5_bank 53 = .ok (.aload_n 0, 1) := by decide +kernel
theorem dX5_bank_54 : decode cX5_bank 54 = .ok (.getfield 38, 3) := by decide +kernel
theorem dX5_bank_57 : decode cX5_bank 57 = .ok (.sipush 512, 3) := by decide +kernel
theorem dX5_bank_60 : decode cX5_bank 60 = .ok (.iload_n 1, 1) := by decide +kernel
theorem dX5_bank_61 : decode cX5_bank 61 = .ok (.imul, 1) := by decide +kernel
theorem dX5_bank_62 : decode cX5_bank 62 = .ok (.sipush 256, 3) := by decide +kernel
theorem dX5_bank_65 : decode cX5_bank 65 = .ok (.iload_n 2, 1) := by decide +kernel
theorem dX5_bank_66 : decode cX5_bank 66 = .ok (.imul, 1) := by decide +kernel
theorem dX5_bank_67 : decode cX5_bank 67 = .ok (.iadd, 1) := by decide +kernel
theorem dX5_bank_68 : decode cX5_bank 68 = .ok (.lload_n 3, 1) := by decide +kernel
theorem dX5_bank_69 : decode cX5_bank 69 = .ok (.l2i, 1) := by decide +kernel
theorem dX5_bank_70 : decode cX5_bank 70 = .ok (.iadd, 1) := by decide +kernel
theorem dX5_bank_71 : decode cX5_bank 71 = .ok (.iaload, 1) := by decide +kernel
theorem dX5_bank_72 : decode cX5_bank 72 = .ok (.i2b, 1) := by decide +kernel
theorem dX5_bank_73 : decode cX5_bank 73 = .ok (.ireturn, 1) := by decide +kernel
theorem dX5_joint_0 : decode cX5_joint 0 = .ok (.aload_n 0, 1) := by decide +kernel
theorem dX5_joint_1 : decode cX5_joint 1 = .ok (.iconst 0, 1) := by decide +kernel
theorem dX5_joint_2 : decode cX5_joint 2 = .ok (.putfield 99, 3) := by decide +kernel
theorem dX5_joint_5 : decode cX5_joint 5 = .ok (.aload_n 0, 1) := by decide +kernel
theorem dX5_joint_6 : decode cX5_joint 6 = .ok (.getfield 165, 3) := by decide +kernel
theorem dX5_joint_9 : decode cX5_joint 9 = .ok (.ifCond .le 7, 3) := by decide +kernel
theorem dX5_joint_12 : decode cX5_joint 12 = .ok (.iconst 1, 1) := by decide +kernel
theorem dX5_joint_13 : decode cX5_joint 13 = .ok (.goto 4, 3) := by decide +kernel
theorem dX5_joint_16 : decode cX5_joint 16 = .ok (.iconst 0, 1) := by decide +kernel
theorem dX5_joint_17 : decode cX5_joint 17 = .ok (.istore_n 1, 1) := by decide +kernel
theorem dX5_joint_18 : decode cX5_joint 18 = .ok (.iconst 1, 1) := by decide +kernel
theorem dX5_joint_19 : decode cX5_joint 19 = .ok (.istore_n 2, 1) := by decide +kernel
theorem dX5_joint_20 : decode cX5_joint 20 = .ok (.iload_n 2, 1) := by decide +kernel
theorem dX5_joint_21 : decode cX5_joint 21 = .ok (.aload_n 0, 1) := by decide +kernel
theorem dX5_joint_22 : decode cX5_joint 22 = .ok (.getfield 144, 3) := by decide +kernel
theorem dX5_joint_25 : decode cX5_joint 25 = .ok (.if_icmp .gt 52, 3) := by decide +kernel
theorem dX5_joint_28 : decode cX5_joint 28 = .ok (.iload_n 1, 1) := by decide +kernel
theorem dX5_joint_29 : decode cX5_joint 29 = .ok (.ifCond .eq 40, 3) := by decide +kernel
theorem dX5_joint_32 : decode cX5_joint 32 = .ok (.aload_n 0, 1) := by decide +kernel
theorem dX5_joint_33 : decode cX5_joint 33 = .ok (.getfield 59, 3) := by decide +kernel
theorem dX5_joint_36 : decode cX5_joint 36 = .ok (.iload_n 2, 1) := by decide +kernel
theorem dX5_joint_37 : decode cX5_joint 37 = .ok (.iaload, 1) := by decide +kernel
theorem dX5_joint_38 : decode cX5_joint 38 = .ok (.aload_n 0, 1) := by decide +kernel
theorem dX5_joint_39 : decode cX5_joint 39 = .ok (.getfield 165, 3) := by decide +kernel
theorem dX5_joint_42 : decode cX5_joint 42 = .ok (.if_icmp .ne 23, 3) := by decide +kernel
theorem dX5_joint_45 : decode cX5_joint 45 = .ok (.aload_n 0, 1) := by decide +kernel
theorem dX5_joint_46 : decode cX5_joint 46 = .ok (.getfield 13, 3) := by decide +kernel
theorem dX5_joint_49 : decode cX5_joint 49 = .ok (.aload_n 0, 1) := by decide +kernel
theorem dX5_joint_50 : decode cX5_joint 50 = .ok (.getfield 41, 3) := by decide +kernel
theorem dX5_joint_53 : decode cX5_joint 53 = .ok (.iload_n 2, 1) := by decide +kernel
theorem dX5_joint_54 : decode cX5_joint 54 = .ok (.iaload, 1) := by decide +kernel
theorem dX5_joint_55 : decode cX5_joint 55 = .ok (.iaload, 1) := by decide +kernel
theorem dX5_joint_56 : decode cX5_joint 56 = .ok (.aload_n 0, 1) := by decide +kernel
theorem dX5_joint_57 : decode cX5_joint 57 = .ok (.getfield 56, 3) := by decide +kernel
theorem dX5_joint_60 : decode cX5_joint 60 = .ok (.iload_n 2, 1) := by decide +kernel
theorem dX5_joint_61 : decode cX5_joint 61 = .ok (.iaload, 1) := by decide +kernel
theorem dX5_joint_62 : decode cX5_joint 62 = .ok (.if_icmp .ne 7, 3) := by decide +kernel
theorem dX5_joint_65 : decode cX5_joint 65 = .ok (.iconst 1, 1) := by decide +kernel
theorem dX5_joint_66 : decode cX5_joint 66 = .ok (.goto 4, 3) := by decide +kernel
theorem dX5_joint_69 : decode cX5_joint 69 = .ok (.iconst 0, 1) := by decide +kernel
theorem dX5_joint_70 : decode cX5_joint 70 = .ok (.istore_n 1, 1) := by decide +kernel
theorem dX5_joint_71 : decode cX5_joint 71 = .ok (.iinc 2 1, 3) := by decide +kernel
theorem dX5_joint_74 : decode cX5_joint 74 = .ok (.goto (-54), 3) := by decide +kernel
theorem dX5_joint_77 : decode cX5_joint 77 = .ok (.iload_n 1, 1) := by decide +kernel
theorem dX5_joint_78 : decode cX5_joint 78 = .ok (.ifCond .eq 7, 3) := by decide +kernel
theorem dX5_joint_81 : decode cX5_joint 81 = .ok (.iconst 1, 1) := by decide +kernel
theorem dX5_joint_82 : decode cX5_joint 82 = .ok (.goto 4, 3) := by decide +kernel
theorem dX5_joint_85 : decode cX5_joint 85 = .ok (.iconst 0, 1) := by decide +kernel
theorem dX5_joint_86 : decode cX5_joint 86 = .ok (.ireturn, 1) := by decide +kernel
set_option maxRecDepth 20000 in
theorem ggX5_rollback_X5_there : GoodIn wsX5_rollback wsX5_there := goodIn_ca (goodIn_r _ [14, 15, 16, 17, 18, 19, 20, 21, 22, 23, 24, 25, 26, 27, 28, 29, 30, 31, 32, 33, 34, 35, 36, 37, 38, 39, 40, 41, 42, 43, 44, 45, 46, 47, 48, 49, 50, 51, 52] (by decide +kernel) (by decide +kernel)) (goodIn_sub (fun _ h => List.mem_cons_of_mem _ (List.mem_append_right _ h)) (by decide +kernel))
set_option maxRecDepth 20000 in
theorem gX5_rollback_X5_there : GoodIn wsX5_rollback (wsV RX5 158 RX5 yX5_there wsX5_there) := goodIn_app (goodIn_of _ (by decide +kernel)) ggX5_rollback_X5_there
theorem dX5_rollback_0 : decode cX5_rollback 0 = .ok (.aload_n 0, 1) := by decide +kernel
theorem dX5_rollback_1 : decode cX5_rollback 1 = .ok (.iconst 0, 1) := by decide +kernel
theorem dX5_rollback_2 : decode cX5_rollback 2 = .ok (.putfield 99, 3) := by decide +kernel
theorem dX5_rollback_5 : decode cX5_rollback 5 = .ok (.aload_n 0, 1) := by decide +kernel
theorem dX5_rollback_6 : decode cX5_rollback 6 = .ok (.getfield 165, 3) := by decide +kernel
theorem dX5_rollback_9 : decode cX5_rollback 9 = .ok (.ifCond .le 7, 3) := by decide +kernel
theorem dX5_rollback_12 : decode cX5_rollback 12 = .ok (.iconst 1, 1) := by decide +kernel
theorem dX5_rollback_13 : decode cX5_rollback 13 = .ok (.goto 4, 3) := by decide +kernel
theorem dX5_rollback_16 : decode cX5_rollback 16 = .ok (.iconst 0, 1) := by decide +kernel
theorem dX5_rollback_17 : decode cX5_rollback 17 = .ok (.istore_n 1, 1) := by decide +kernel
theorem dX5_rollback_18 : decode cX5_rollback 18 = .ok (.iconst 1, 1) := by decide +kernel
theorem dX5_rollback_19 : decode cX5_rollback 19 = .ok (.istore_n 2, 1) := by decide +kernel
theorem dX5_rollback_20 : decode cX5_rollback 20 = .ok (.iload_n 2, 1) := by decide +kernel
theorem dX5_rollback_21 : decode cX5_rollback 21 = .ok (.aload_n 0, 1) := by decide +kernel
theorem dX5_rollback_22 : decode cX5_rollback 22 = .ok (.getfield 144, 3) := by decide +kernel
theorem dX5_rollback_25 : decode cX5_rollback 25 = .ok (.if_icmp .gt 59, 3) := by decide +kernel
theorem dX5_rollback_28 : decode cX5_rollback 28 = .ok (.iload_n 1, 1) := by decide +kernel
theorem dX5_rollback_29 : decode cX5_rollback 29 = .ok (.ifCond .eq 47, 3) := by decide +kernel
theorem dX5_rollback_32 : decode cX5_rollback 32 = .ok (.aload_n 0, 1) := by decide +kernel
theorem dX5_rollback_33 : decode cX5_rollback 33 = .ok (.getfield 59, 3) := by decide +kernel
theorem dX5_rollback_36 : decode cX5_rollback 36 = .ok (.iload_n 2, 1) := by decide +kernel
theorem dX5_rollback_37 : decode cX5_rollback 37 = .ok (.iaload, 1) := by decide +kernel
theorem dX5_rollback_38 : decode cX5_rollback 38 = .ok (.aload_n 0, 1) := by decide +kernel
theorem dX5_rollback_39 : decode cX5_rollback 39 = .ok (.getfield 165, 3) := by decide +kernel
theorem dX5_rollback_42 : decode cX5_rollback 42 = .ok (.if_icmp .ne 30, 3) := by decide +kernel
theorem dX5_rollback_45 : decode cX5_rollback 45 = .ok (.aload_n 0, 1) := by decide +kernel
theorem dX5_rollback_46 : decode cX5_rollback 46 = .ok (.aload_n 0, 1) := by decide +kernel
theorem dX5_rollback_47 : decode cX5_rollback 47 = .ok (.getfield 41, 3) := by decide +kernel
theorem dX5_rollback_50 : decode cX5_rollback 50 = .ok (.iload_n 2, 1) := by decide +kernel
theorem dX5_rollback_51 : decode cX5_rollback 51 = .ok (.iaload, 1) := by decide +kernel
theorem dX5_rollback_52 : decode cX5_rollback 52 = .ok (.invokevirtual 158, 3) := by decide +kernel
theorem dX5_rollback_55 : decode cX5_rollback 55 = .ok (.ifCond .eq 21, 3) := by decide +kernel
theorem dX5_rollback_58 : decode cX5_rollback 58 = .ok (.aload_n 0, 1) := by decide +kernel
theorem dX5_rollback_59 : decode cX5_rollback 59 = .ok (.getfield 19, 3) := by decide +kernel
theorem dX5_rollback_62 : decode cX5_rollback 62 = .ok (.aload_n 0, 1) := by decide +kernel
theorem dX5_rollback_63 : decode cX5_rollback 63 = .ok (.getfield 41, 3) := by decide +kernel
theorem dX5_rollback_66 : decode cX5_rollback 66 = .ok (.iload_n 2, 1) := by decide +kernel
theorem dX5_rollback_67 : decode cX5_rollback 67 = .ok (.iaload, 1) := by decide +kernel
theorem dX5_rollback_68 : decode cX5_rollback 68 = .ok (.iaload, 1) := by decide +kernel
theorem dX5_rollback_69 : decode cX5_rollback 69 = .ok (.ifCond .gt 7, 3) := by decide +kernel
theorem dX5_rollback_72 : decode cX5_rollback 72 = .ok (.iconst 1, 1) := by decide +kernel
theorem dX5_rollback_73 : decode cX5_rollback 73 = .ok (.goto 4, 3) := by decide +kernel
theorem dX5_rollback_76 : decode cX5_rollback 76 = .ok (.iconst 0, 1) := by decide +kernel
theorem dX5_rollback_77 : decode cX5_rollback 77 = .ok (.istore_n 1, 1) := by decide +kernel
theorem dX5_rollback_78 : decode cX5_rollback 78 = .ok (.iinc 2 1, 3) := by decide +kernel
theorem dX5_rollback_81 : decode cX5_rollback 81 = .ok (.goto (-61), 3) := by decide +kernel
theorem dX5_rollback_84 : decode cX5_rollback 84 = .ok (.iload_n 1, 1) := by decide +kernel
theorem dX5_rollback_85 : decode cX5_rollback 85 = .ok (.ifCond .ne 5, 3) := by decide +kernel
theorem dX5_rollback_88 : decode cX5_rollback 88 = .ok (.iconst 0, 1) := by decide +kernel
theorem dX5_rollback_89 : decode cX5_rollback 89 = .ok (.ireturn, 1) := by decide +kernel
theorem dX5_rollback_90 : decode cX5_rollback 90 = .ok (.iconst 1, 1) := by decide +kernel
theorem dX5_rollback_91 : decode cX5_rollback 91 = .ok (.istore_n 2, 1) := by decide +kernel
theorem dX5_rollback_92 : decode cX5_rollback 92 = .ok (.iload_n 2, 1) := by decide +kernel
theorem dX5_rollback_93 : decode cX5_rollback 93 = .ok (.aload_n 0, 1) := by decide +kernel
theorem dX5_rollback_94 : decode cX5_rollback 94 = .ok (.getfield 144, 3) := by decide +kernel
theorem dX5_rollback_97 : decode cX5_rollback 97 = .ok (.if_icmp .gt 67, 3) := by decide +kernel
theorem dX5_rollback_100 : decode cX5_rollback 100 = .ok (.aload_n 0, 1) := by decide +kernel
theorem dX5_rollback_101 : decode cX5_rollback 101 = .ok (.getfield 41, 3) := by decide +kernel
theorem dX5_rollback_104 : decode cX5_rollback 104 = .ok (.iload_n 2, 1) := by decide +kernel
theorem dX5_rollback_105 : decode cX5_rollback 105 = .ok (.iaload, 1) := by decide +kernel
theorem dX5_rollback_106 : decode cX5_rollback 106 = .ok (.istore_n 3, 1) := by decide +kernel
theorem dX5_rollback_107 : decode cX5_rollback 107 = .ok (.aload_n 0, 1) := by decide +kernel
theorem dX5_rollback_108 : decode cX5_rollback 108 = .ok (.getfield 59, 3) := by decide +kernel
theorem dX5_rollback_111 : decode cX5_rollback 111 = .ok (.iload_n 2, 1) := by decide +kernel
theorem dX5_rollback_112 : decode cX5_rollback 112 = .ok (.iaload, 1) := by decide +kernel
theorem dX5_rollback_113 : decode cX5_rollback 113 = .ok (.aload_n 0, 1) := by decide +kernel
theorem dX5_rollback_114 : decode cX5_rollback 114 = .ok (.getfield 165, 3) := by decide +kernel
theorem dX5_rollback_117 : decode cX5_rollback 117 = .ok (.if_icmp .eq 6, 3) := by decide +kernel
theorem dX5_rollback_120 : decode cX5_rollback 120 = .ok (.goto 38, 3) := by decide +kernel
theorem dX5_rollback_123 : decode cX5_rollback 123 = .ok (.aload_n 0, 1) := by decide +kernel
theorem dX5_rollback_124 : decode cX5_rollback 124 = .ok (.getfield 13, 3) := by decide +kernel
theorem dX5_rollback_127 : decode cX5_rollback 127 = .ok (.iload_n 3, 1) := by decide +kernel
theorem dX5_rollback_128 : decode cX5_rollback 128 = .ok (.iconst 1, 1) := by decide +kernel
theorem dX5_rollback_129 : decode cX5_rollback 129 = .ok (.aload_n 0, 1) := by decide +kernel
theorem dX5_rollback_130 : decode cX5_rollback 130 = .ok (.getfield 13, 3) := by decide +kernel
theorem dX5_rollback_133 : decode cX5_rollback 133 = .ok (.iload_n 3, 1) := by decide +kernel
theorem dX5_rollback_134 : decode cX5_rollback 134 = .ok (.iaload, 1) := by decide +kernel
theorem dX5_rollback_135 : decode cX5_rollback 135 = .ok (.isub, 1) := by decide +kernel
theorem dX5_rollback_136 : decode cX5_rollback 136 = .ok (.iastore, 1) := by decide +kernel
theorem dX5_rollback_137 : decode cX5_rollback 137 = .ok (.aload_n 0, 1) := by decide +kernel
theorem dX5_rollback_138 : decode cX5_rollback 138 = .ok (.getfield 16, 3) := by decide +kernel
theorem dX5_rollback_141 : decode cX5_rollback 141 = .ok (.iload_n 3, 1) := by decide +kernel
theorem dX5_rollback_142 : decode cX5_rollback 142 = .ok (.aload_n 0, 1) := by decide +kernel
theorem dX5_rollback_143 : decode cX5_rollback 143 = .ok (.getfield 35, 3) := by decide +kernel
theorem dX5_rollback_146 : decode cX5_rollback 146 = .ok (.iconst 2, 1) := by decide +kernel
theorem dX5_rollback_147 : decode cX5_rollback 147 = .ok (.iload_n 3, 1) := by decide +kernel
theorem dX5_rollback_148 : decode cX5_rollback 148 = .ok (.imul, 1) := by decide +kernel
theorem dX5_rollback_149 : decode cX5_rollback 149 = .ok (.aload_n 0, 1) := by decide +kernel
theorem dX5_rollback_150 : decode cX5_rollback 150 = .ok (.getfield 13, 3) := by decide +kernel
theorem dX5_rollback_153 : decode cX5_rollback 153 = .ok (.iload_n 3, 1) := by decide +kernel
theorem dX5_rollback_154 : decode cX5_rollback 154 = .ok (.iaload, 1) := by decide +kernel
theorem dX5_rollback_155 : decode cX5_rollback 155 = .ok (.iadd, 1) := by decide +kernel
theorem dX5_rollback_156 : decode cX5_rollback 156 = .ok (.iaload, 1) := by decide +kernel
theorem dX5_rollback_157 : decode cX5_rollback 157 = .ok (.iastore, 1) := by decide +kernel
theorem dX5_rollback_158 : decode cX5_rollback 158 = .ok (.iinc 2 1, 3) := by decide +kernel
theorem dX5_rollback_161 : decode cX5_rollback 161 = .ok (.goto (-69), 3) := by decide +kernel
theorem dX5_rollback_164 : decode cX5_rollback 164 = .ok (.aload_n 0, 1) := by decide +kernel
theorem dX5_rollback_165 : decode cX5_rollback 165 = .ok (.iconst 0, 1) := by decide +kernel
theorem dX5_rollback_166 : decode cX5_rollback 166 = .ok (.putfield 165, 3) := by decide +kernel
theorem dX5_rollback_169 : decode cX5_rollback 169 = .ok (.iconst 1, 1) := by decide +kernel
theorem dX5_rollback_170 : decode cX5_rollback 170 = .ok (.ireturn, 1) := by decide +kernel
set_option maxRecDepth 20000 in
theorem ggX5_silent_X5_none : GoodIn wsX5_silent wsX5_none := goodIn_r _ [6, 7, 8, 9, 10, 11, 12, 13, 14, 15, 16, 17, 18, 19, 20, 21, 22, 23, 24, 25, 26, 27, 28, 29, 30, 31, 32, 33, 34, 35, 36, 37, 38, 39, 40, 41, 42, 43, 44] (by decide +kernel) (by decide +kernel)
set_option maxRecDepth 20000 in
theorem gX5_silent_X5_none : GoodIn wsX5_silent (wsV RX5 136 RX5 yX5_none wsX5_none) := goodIn_app (goodIn_of _ (by decide +kernel)) ggX5_silent_X5_none
theorem dX5_silent_0 : decode cX5_silent 0 = .ok (.aload_n 0, 1) := by decide +kernel
theorem dX5_silent_1 : decode cX5_silent 1 = .ok (.iload_n 1, 1) := by decide +kernel
theorem dX5_silent_2 : decode cX5_silent 2 = .ok (.invokevirtual 136, 3) := by decide +kernel
theorem dX5_silent_5 : decode cX5_silent 5 = .ok (.ifCond .eq 5, 3) := by decide +kernel
theorem dX5_silent_8 : decode cX5_silent 8 = .ok (.iconst (-1), 1) := by decide +kernel
theorem dX5_silent_9 : decode cX5_silent 9 = .ok (.ireturn, 1) := by decide +kernel
theorem dX5_silent_10 : decode cX5_silent 10 = .ok (.aload_n 0, 1) := by decide +kernel
theorem dX5_silent_11 : decode cX5_silent 11 = .ok (.getfield 26, 3) := by decide +kernel
theorem dX5_silent_14 : decode cX5_silent 14 = .ok (.iload_n 1, 1) := by decide +kernel
theorem dX5_silent_15 : decode cX5_silent 15 = .ok (.baload, 1) := by decide +kernel
theorem dX5_silent_16 : decode cX5_silent 16 = .ok (.istore_n 3, 1) := by decide +kernel
theorem dX5_silent_17 : decode cX5_silent 17 = .ok (.aload_n 0, 1) := by decide +kernel
theorem dX5_silent_18 : decode cX5_silent 18 = .ok (.getfield 26, 3) := by decide +kernel
theorem dX5_silent_21 : decode cX5_silent 21 = .ok (.iload_n 1, 1) := by decide +kernel
theorem dX5_silent_22 : decode cX5_silent 22 = .ok (.iload_n 2, 1) := by decide +kernel
theorem dX5_silent_23 : decode cX5_silent 23 = .ok (.bastore, 1) := by decide +kernel
theorem dX5_silent_24 : decode cX5_silent 24 = .ok (.iload_n 3, 1) := by decide +kernel
theorem dX5_silent_25 : decode cX5_silent 25 = .ok (.iload_n 2, 1) := by decide +kernel
theorem dX5_silent_26 : decode cX5_silent 26 = .ok (.if_icmp .ne 7, 3) := by decide +kernel
theorem dX5_silent_29 : decode cX5_silent 29 = .ok (.iconst 0, 1) := by decide +kernel
theorem dX5_silent_30 : decode cX5_silent 30 = .ok (.goto 4, 3) := by decide +kernel
theorem dX5_silent_33 : decode cX5_silent 33 = .ok (.iconst 1, 1) := by decide +kernel
theorem dX5_silent_34 : decode cX5_silent 34 = .ok (.ireturn, 1) := by decide +kernel
set_option maxRecDepth 20000 in
theorem ggX5_counter_X5_none : GoodIn wsX5_counter wsX5_none := goodIn_r _ [6, 7, 8, 9, 10, 11, 12, 13, 14, 15, 16, 17, 18, 19, 20, 21, 22, 23, 24, 25, 26, 27, 28, 29, 30, 31, 32, 33, 34, 35, 36, 37, 38, 39, 40, 41, 42, 43, 44] (by decide +kernel) (by decide +kernel)
set_option maxRecDepth 20000 in
theorem gX5_counter_X5_none : GoodIn wsX5_counter (wsV RX5 136 RX5 yX5_none wsX5_none) := goodIn_app (goodIn_of _ (by decide +kernel)) ggX5_counter_X5_none
theorem dX5_counter_0 : decode cX5_counter 0 = .ok (.aload_n 0, 1) := by decide +kernel
theorem dX5_counter_1 : decode cX5_counter 1 = .ok (.iload_n 1, 1) := by decide +kernel
theorem dX5_counter_2 : decode cX5_counter 2 = .ok (.invokevirtual 136, 3) := by decide +kernel
theorem dX5_counter_5 : decode cX5_counter 5 = .ok (.ifCond .eq 7, 3) := by decide +kernel
theorem dX5_counter_8 : decode cX5_counter 8 = .ok (.iconst (-1), 1) := by decide +kernel
theorem dX5_counter_9 : decode cX5_counter 9 = .ok (.goto 9, 3) := by decide +kernel
theorem dX5_counter_12 : decode cX5_counter 12 = .ok (.aload_n 0, 1) := by decide +kernel
theorem dX5_counter_13 : decode cX5_counter 13 = .ok (.getfield 16, 3) := by decide +kernel
theorem dX5_counter_16 : decode cX5_counter 16 = .ok (.iload_n 1, 1) := by decide +kernel
theorem dX5_counter_17 : decode cX5_counter 17 = .ok (.iaload, 1) := by decide +kernel
theorem dX5_counter_18 : decode cX5_counter 18 = .ok (.ireturn, 1) := by decide +kernel
theorem dJx00060_init_a7421_0 : decode cJx00060_init_a7421 0 = .ok (.aload_n 0, 1) := by decide +kernel
theorem dJx00060_init_a7421_1 : decode cJx00060_init_a7421 1 = .ok (.aload_n 1, 1) := by decide +kernel
theorem dJx00060_init_a7421_2 : decode cJx00060_init_a7421 2 = .ok (.invokespecial 7, 3) := by decide +kernel
theorem dJx00060_init_a7421_5 : decode cJx00060_init_a7421 5 = .ok (.return_, 1) := by decide +kernel
theorem dJ9_min_7cf53_0 : decode cJ9_min_7cf53 0 = .ok (.iload_n 0, 1) := by decide +kernel
theorem dJ9_min_7cf53_1 : decode cJ9_min_7cf53 1 = .ok (.iload_n 1, 1) := by decide +kernel
theorem dJ9_min_7cf53_2 : decode cJ9_min_7cf53 2 = .ok (.if_icmp .gt 7, 3) := by decide +kernel
theorem dJ9_min_7cf53_5 : decode cJ9_min_7cf53 5 = .ok (.iload_n 0, 1) := by decide +kernel
theorem dJ9_min_7cf53_6 : decode cJ9_min_7cf53 6 = .ok (.goto 4, 3) := by decide +kernel
theorem dJ9_min_7cf53_9 : decode cJ9_min_7cf53 9 = .ok (.iload_n 1, 1) := by decide +kernel
theorem dJ9_min_7cf53_10 : decode cJ9_min_7cf53 10 = .ok (.ireturn, 1) := by decide +kernel
theorem dL_digest_0 : decode cL_digest 0 = .ok (.aload_n 2, 1) := by decide +kernel
theorem dL_digest_1 : decode cL_digest 1 = .ok (.iconst 0, 1) := by decide +kernel
theorem dL_digest_2 : decode cL_digest 2 = .ok (.aload_n 0, 1) := by decide +kernel
theorem dL_digest_3 : decode cL_digest 3 = .ok (.iload_n 1, 1) := by decide +kernel
theorem dL_digest_4 : decode cL_digest 4 = .ok (.invokevirtual 7, 3) := by decide +kernel
theorem dL_digest_7 : decode cL_digest 7 = .ok (.i2l, 1) := by decide +kernel
theorem dL_digest_8 : decode cL_digest 8 = .ok (.lastore, 1) := by decide +kernel
theorem dL_digest_9 : decode cL_digest 9 = .ok (.goto 6, 3) := by decide +kernel
theorem dL_digest_12 : decode cL_digest 12 = .ok (.astore_n 3, 1) := by decide +kernel
theorem dL_digest_13 : decode cL_digest 13 = .ok (.iconst 1, 1) := by decide +kernel
theorem dL_digest_14 : decode cL_digest 14 = .ok (.ireturn, 1) := by decide +kernel
theorem dL_digest_15 : decode cL_digest 15 = .ok (.iconst 0, 1) := by decide +kernel
theorem dL_digest_16 : decode cL_digest 16 = .ok (.ireturn, 1) := by decide +kernel
theorem dL_bank_0 : decode cL_bank 0 = .ok (.aload 5, 2) := by decide +kernel
end
section
theorem dL_bank_2 : decode cL_bank 2 = .ok (.iconst 0, 1) := by decide +kernel
theorem dL_bank_3 : decode cL_bank 3 = .ok (.aload_n 0, 1) := by decide +kernel
theorem dL_bank_4 : decode cL_bank 4 = .ok (.iload_n 1, 1) := by decide +kernel
theorem dL_bank_5 : decode cL_bank 5 = .ok (.iload_n 2, 1) := by decide +kernel
theorem dL_bank_6 : decode cL_bank 6 = .ok (.lload_n 3, 1) := by decide +kernel
theorem dL_bank_7 : decode cL_bank 7 = .ok (.invokevirtual 15, 3) := by decide +kernel
theorem dL_bank_10 : decode cL_bank 10 = .ok (.i2l, 1) := by decide +kernel
theorem dL_bank_11 : decode cL_bank 11 = .ok (.lastore, 1) := by decide +kernel
theorem dL_bank_12 : decode cL_bank 12 = .ok (.goto 7, 3) := by decide +kernel
theorem dL_bank_15 : decode cL_bank 15 = .ok (.astore 6, 2) := by decide +kernel
theorem dL_bank_17 : decode cL_bank 17 = .ok (.iconst 1, 1) := by decide +kernel
theorem dL_bank_18 : decode cL_bank 18 = .ok (.ireturn, 1) := by decide +kernel
theorem dL_bank_19 : decode cL_bank 19 = .ok (.iconst 0, 1) := by decide +kernel
theorem dL_bank_20 : decode cL_bank 20 = .ok (.ireturn, 1) := by decide +kernel
theorem dL_law_0 : decode cL_law 0 = .ok (.new 8, 3) := by decide +kernel
theorem dL_law_3 : decode cL_law 3 = .ok (.dup, 1) := by decide +kernel
theorem dL_law_4 : decode cL_law 4 = .ok (.invokespecial 19, 3) := by decide +kernel
theorem dL_law_7 : decode cL_law 7 = .ok (.astore_n 1, 1) := by decide +kernel
theorem dL_law_8 : decode cL_law 8 = .ok (.new 20, 3) := by decide +kernel
theorem dL_law_11 : decode cL_law 11 = .ok (.dup, 1) := by decide +kernel
theorem dL_law_12 : decode cL_law 12 = .ok (.invokespecial 22, 3) := by decide +kernel
theorem dL_law_15 : decode cL_law 15 = .ok (.astore_n 2, 1) := by decide +kernel
theorem dL_law_16 : decode cL_law 16 = .ok (.iconst 1, 1) := by decide +kernel
theorem dL_law_17 : decode cL_law 17 = .ok (.newarray .long, 2) := by decide +kernel
theorem dL_law_19 : decode cL_law 19 = .ok (.astore_n 3, 1) := by decide +kernel
theorem dL_law_20 : decode cL_law 20 = .ok (.iconst 0, 1) := by decide +kernel
theorem dL_law_21 : decode cL_law 21 = .ok (.istore 4, 2) := by decide +kernel
theorem dL_law_23 : decode cL_law 23 = .ok (.iload 4, 2) := by decide +kernel
theorem dL_law_25 : decode cL_law 25 = .ok (.aload_n 0, 1) := by decide +kernel
theorem dL_law_26 : decode cL_law 26 = .ok (.arraylength, 1) := by decide +kernel
theorem dL_law_27 : decode cL_law 27 = .ok (.iconst 5, 1) := by decide +kernel
theorem dL_law_28 : decode cL_law 28 = .ok (.isub, 1) := by decide +kernel
theorem dL_law_29 : decode cL_law 29 = .ok (.if_icmp .gt 680, 3) := by decide +kernel
theorem dL_law_32 : decode cL_law 32 = .ok (.aload_n 0, 1) := by decide +kernel
theorem dL_law_33 : decode cL_law 33 = .ok (.iload 4, 2) := by decide +kernel
theorem dL_law_35 : decode cL_law 35 = .ok (.iaload, 1) := by decide +kernel
theorem dL_law_36 : decode cL_law 36 = .ok (.bipush 15, 2) := by decide +kernel
theorem dL_law_38 : decode cL_law 38 = .ok (.iand, 1) := by decide +kernel
theorem dL_law_39 : decode cL_law 39 = .ok (.tableswitch 664 0 14 #[73, 98, 123, 188, 244, 281, 332, 385, 410, 423, 448, 560, 573, 586, 639], 73) := by decide +kernel
theorem dL_law_112 : decode cL_law 112 = .ok (.aload_n 1, 1) := by decide +kernel
theorem dL_law_113 : decode cL_law 113 = .ok (.aload_n 0, 1) := by decide +kernel
theorem dL_law_114 : decode cL_law 114 = .ok (.iload 4, 2) := by decide +kernel
theorem dL_law_116 : decode cL_law 116 = .ok (.iconst 1, 1) := by decide +kernel
theorem dL_law_117 : decode cL_law 117 = .ok (.iadd, 1) := by decide +kernel
theorem dL_law_118 : decode cL_law 118 = .ok (.iaload, 1) := by decide +kernel
theorem dL_law_119 : decode cL_law 119 = .ok (.invokevirtual 23, 3) := by decide +kernel
theorem dL_law_122 : decode cL_law 122 = .ok (.aload_n 2, 1) := by decide +kernel
theorem dL_law_123 : decode cL_law 123 = .ok (.aload_n 0, 1) := by decide +kernel
theorem dL_law_124 : decode cL_law 124 = .ok (.iload 4, 2) := by decide +kernel
theorem dL_law_126 : decode cL_law 126 = .ok (.iconst 1, 1) := by decide +kernel
theorem dL_law_127 : decode cL_law 127 = .ok (.iadd, 1) := by decide +kernel
theorem dL_law_128 : decode cL_law 128 = .ok (.iaload, 1) := by decide +kernel
theorem dL_law_129 : decode cL_law 129 = .ok (.invokevirtual 27, 3) := by decide +kernel
theorem dL_law_132 : decode cL_law 132 = .ok (.if_icmp .eq 571, 3) := by decide +kernel
theorem dL_law_135 : decode cL_law 135 = .ok (.iconst 0, 1) := by decide +kernel
theorem dL_law_136 : decode cL_law 136 = .ok (.ireturn, 1) := by decide +kernel
theorem dL_law_137 : decode cL_law 137 = .ok (.aload_n 1, 1) := by decide +kernel
theorem dL_law_138 : decode cL_law 138 = .ok (.aload_n 0, 1) := by decide +kernel
theorem dL_law_139 : decode cL_law 139 = .ok (.iload 4, 2) := by decide +kernel
theorem dL_law_141 : decode cL_law 141 = .ok (.iconst 1, 1) := by decide +kernel
theorem dL_law_142 : decode cL_law 142 = .ok (.iadd, 1) := by decide +kernel
theorem dL_law_143 : decode cL_law 143 = .ok (.iaload, 1) := by decide +kernel
theorem dL_law_144 : decode cL_law 144 = .ok (.i2b, 1) := by decide +kernel
theorem dL_law_145 : decode cL_law 145 = .ok (.invokevirtual 28, 3) := by decide +kernel
theorem dL_law_148 : decode cL_law 148 = .ok (.aload_n 2, 1) := by decide +kernel
theorem dL_law_149 : decode cL_law 149 = .ok (.aload_n 0, 1) := by decide +kernel
theorem dL_law_150 : decode cL_law 150 = .ok (.iload 4, 2) := by decide +kernel
theorem dL_law_152 : decode cL_law 152 = .ok (.iconst 1, 1) := by decide +kernel
theorem dL_law_153 : decode cL_law 153 = .ok (.iadd, 1) := by decide +kernel
theorem dL_law_154 : decode cL_law 154 = .ok (.iaload, 1) := by decide +kernel
theorem dL_law_155 : decode cL_law 155 = .ok (.i2b, 1) := by decide +kernel
theorem dL_law_156 : decode cL_law 156 = .ok (.invokevirtual 32, 3) := by decide +kernel
theorem dL_law_159 : decode cL_law 159 = .ok (.goto 544, 3) := by decide +kernel
theorem dL_law_162 : decode cL_law 162 = .ok (.aload_n 1, 1) := by decide +kernel
theorem dL_law_163 : decode cL_law 163 = .ok (.aload_n 0, 1) := by decide +kernel
theorem dL_law_164 : decode cL_law 164 = .ok (.iload 4, 2) := by decide +kernel
theorem dL_law_166 : decode cL_law 166 = .ok (.iconst 1, 1) := by decide +kernel
theorem dL_law_167 : decode cL_law 167 = .ok (.iadd, 1) := by decide +kernel
theorem dL_law_168 : decode cL_law 168 = .ok (.iaload, 1) := by decide +kernel
theorem dL_law_169 : decode cL_law 169 = .ok (.aload_n 0, 1) := by decide +kernel
theorem dL_law_170 : decode cL_law 170 = .ok (.iload 4, 2) := by decide +kernel
theorem dL_law_172 : decode cL_law 172 = .ok (.iconst 2, 1) := by decide +kernel
theorem dL_law_173 : decode cL_law 173 = .ok (.iadd, 1) := by decide +kernel
theorem dL_law_174 : decode cL_law 174 = .ok (.iaload, 1) := by decide +kernel
theorem dL_law_175 : decode cL_law 175 = .ok (.aload_n 0, 1) := by decide +kernel
theorem dL_law_176 : decode cL_law 176 = .ok (.iload 4, 2) := by decide +kernel
theorem dL_law_178 : decode cL_law 178 = .ok (.iconst 3, 1) := by decide +kernel
theorem dL_law_179 : decode cL_law 179 = .ok (.iadd, 1) := by decide +kernel
theorem dL_law_180 : decode cL_law 180 = .ok (.iaload, 1) := by decide +kernel
theorem dL_law_181 : decode cL_law 181 = .ok (.ifCond .eq 7, 3) := by decide +kernel
theorem dL_law_184 : decode cL_law 184 = .ok (.iconst 1, 1) := by decide +kernel
theorem dL_law_185 : decode cL_law 185 = .ok (.goto 4, 3) := by decide +kernel
theorem dL_law_188 : decode cL_law 188 = .ok (.iconst 0, 1) := by decide +kernel
theorem dL_law_189 : decode cL_law 189 = .ok (.invokevirtual 33, 3) := by decide +kernel
theorem dL_law_192 : decode cL_law 192 = .ok (.aload_n 2, 1) := by decide +kernel
theorem dL_law_193 : decode cL_law 193 = .ok (.aload_n 0, 1) := by decide +kernel
theorem dL_law_194 : decode cL_law 194 = .ok (.iload 4, 2) := by decide +kernel
theorem dL_law_196 : decode cL_law 196 = .ok (.iconst 1, 1) := by decide +kernel
theorem dL_law_197 : decode cL_law 197 = .ok (.iadd, 1) := by decide +kernel
theorem dL_law_198 : decode cL_law 198 = .ok (.iaload, 1) := by decide +kernel
theorem dL_law_199 : decode cL_law 199 = .ok (.aload_n 0, 1) := by decide +kernel
theorem dL_law_200 : decode cL_law 200 = .ok (.iload 4, 2) := by decide +kernel
theorem dL_law_202 : decode cL_law 202 = .ok (.iconst 2, 1) := by decide +kernel
theorem dL_law_203 : decode cL_law 203 = .ok (.iadd, 1) := by decide +kernel
theorem dL_law_204 : decode cL_law 204 = .ok (.iaload, 1) := by decide +kernel
theorem dL_law_205 : decode cL_law 205 = .ok (.aload_n 0, 1) := by decide +kernel
theorem dL_law_206 : decode cL_law 206 = .ok (.iload 4, 2) := by decide +kernel
theorem dL_law_208 : decode cL_law 208 = .ok (.iconst 3, 1) := by decide +kernel
theorem dL_law_209 : decode cL_law 209 = .ok (.iadd, 1) := by decide +kernel
theorem dL_law_210 : decode cL_law 210 = .ok (.iaload, 1) := by decide +kernel
theorem dL_law_211 : decode cL_law 211 = .ok (.ifCond .eq 7, 3) := by decide +kernel
theorem dL_law_214 : decode cL_law 214 = .ok (.iconst 1, 1) := by decide +kernel
theorem dL_law_215 : decode cL_law 215 = .ok (.goto 4, 3) := by decide +kernel
theorem dL_law_218 : decode cL_law 218 = .ok (.iconst 0, 1) := by decide +kernel
theorem dL_law_219 : decode cL_law 219 = .ok (.invokevirtual 37, 3) := by decide +kernel
theorem dL_law_222 : decode cL_law 222 = .ok (.if_icmp .eq 481, 3) := by decide +kernel
theorem dL_law_225 : decode cL_law 225 = .ok (.iconst 0, 1) := by decide +kernel
theorem dL_law_226 : decode cL_law 226 = .ok (.ireturn, 1) := by decide +kernel
theorem dL_law_227 : decode cL_law 227 = .ok (.aload_n 1, 1) := by decide +kernel
theorem dL_law_228 : decode cL_law 228 = .ok (.aload_n 0, 1) := by decide +kernel
theorem dL_law_229 : decode cL_law 229 = .ok (.iload 4, 2) := by decide +kernel
theorem dL_law_231 : decode cL_law 231 = .ok (.iconst 1, 1) := by decide +kernel
theorem dL_law_232 : decode cL_law 232 = .ok (.iadd, 1) := by decide +kernel
theorem dL_law_233 : decode cL_law 233 = .ok (.iaload, 1) := by decide +kernel
theorem dL_law_234 : decode cL_law 234 = .ok (.aload_n 3, 1) := by decide +kernel
theorem dL_law_235 : decode cL_law 235 = .ok (.invokestatic 38, 3) := by decide +kernel
theorem dL_law_238 : decode cL_law 238 = .ok (.istore 5, 2) := by decide +kernel
theorem dL_law_240 : decode cL_law 240 = .ok (.aload_n 2, 1) := by decide +kernel
theorem dL_law_241 : decode cL_law 241 = .ok (.aload_n 0, 1) := by decide +kernel
theorem dL_law_242 : decode cL_law 242 = .ok (.iload 4, 2) := by decide +kernel
theorem dL_law_244 : decode cL_law 244 = .ok (.iconst 1, 1) := by decide +kernel
theorem dL_law_245 : decode cL_law 245 = .ok (.iadd, 1) := by decide +kernel
theorem dL_law_246 : decode cL_law 246 = .ok (.iaload, 1) := by decide +kernel
theorem dL_law_247 : decode cL_law 247 = .ok (.invokevirtual 43, 3) := by decide +kernel
theorem dL_law_250 : decode cL_law 250 = .ok (.istore 6, 2) := by decide +kernel
theorem dL_law_252 : decode cL_law 252 = .ok (.aload_n 2, 1) := by decide +kernel
theorem dL_law_253 : decode cL_law 253 = .ok (.invokevirtual 44, 3) := by decide +kernel
theorem dL_law_256 : decode cL_law 256 = .ok (.iload 5, 2) := by decide +kernel
theorem dL_law_258 : decode cL_law 258 = .ok (.if_icmp .eq 5, 3) := by decide +kernel
theorem dL_law_261 : decode cL_law 261 = .ok (.iconst 0, 1) := by decide +kernel
theorem dL_law_262 : decode cL_law 262 = .ok (.ireturn, 1) := by decide +kernel
theorem dL_law_263 : decode cL_law 263 = .ok (.iload 5, 2) := by decide +kernel
theorem dL_law_265 : decode cL_law 265 = .ok (.ifCond .ne 15, 3) := by decide +kernel
theorem dL_law_268 : decode cL_law 268 = .ok (.aload_n 3, 1) := by decide +kernel
theorem dL_law_269 : decode cL_law 269 = .ok (.iconst 0, 1) := by decide +kernel
theorem dL_law_270 : decode cL_law 270 = .ok (.laload, 1) := by decide +kernel
theorem dL_law_271 : decode cL_law 271 = .ok (.iload 6, 2) := by decide +kernel
theorem dL_law_273 : decode cL_law 273 = .ok (.i2l, 1) := by decide +kernel
theorem dL_law_274 : decode cL_law 274 = .ok (.lcmp, 1) := by decide +kernel
theorem dL_law_275 : decode cL_law 275 = .ok (.ifCond .eq 5, 3) := by decide +kernel
theorem dL_law_278 : decode cL_law 278 = .ok (.iconst 0, 1) := by decide +kernel
theorem dL_law_279 : decode cL_law 279 = .ok (.ireturn, 1) := by decide +kernel
theorem dL_law_280 : decode cL_law 280 = .ok (.goto 423, 3) := by decide +kernel
theorem dL_law_283 : decode cL_law 283 = .ok (.aload_n 1, 1) := by decide +kernel
theorem dL_law_284 : decode cL_law 284 = .ok (.aload_n 0, 1) := by decide +kernel
theorem dL_law_285 : decode cL_law 285 = .ok (.iload 4, 2) := by decide +kernel
theorem dL_law_287 : decode cL_law 287 = .ok (.iconst 1, 1) := by decide +kernel
theorem dL_law_288 : decode cL_law 288 = .ok (.iadd, 1) := by decide +kernel
theorem dL_law_289 : decode cL_law 289 = .ok (.iaload, 1) := by decide +kernel
theorem dL_law_290 : decode cL_law 290 = .ok (.aload_n 0, 1) := by decide +kernel
theorem dL_law_291 : decode cL_law 291 = .ok (.iload 4, 2) := by decide +kernel
theorem dL_law_293 : decode cL_law 293 = .ok (.iconst 2, 1) := by decide +kernel
theorem dL_law_294 : decode cL_law 294 = .ok (.iadd, 1) := by decide +kernel
theorem dL_law_295 : decode cL_law 295 = .ok (.iaload, 1) := by decide +kernel
theorem dL_law_296 : decode cL_law 296 = .ok (.invokevirtual 48, 3) := by decide +kernel
theorem dL_law_299 : decode cL_law 299 = .ok (.aload_n 2, 1) := by decide +kernel
theorem dL_law_300 : decode cL_law 300 = .ok (.aload_n 0, 1) := by decide +kernel
theorem dL_law_301 : decode cL_law 301 = .ok (.iload 4, 2) := by decide +kernel
theorem dL_law_303 : decode cL_law 303 = .ok (.iconst 1, 1) := by decide +kernel
theorem dL_law_304 : decode cL_law 304 = .ok (.iadd, 1) := by decide +kernel
theorem dL_law_305 : decode cL_law 305 = .ok (.iaload, 1) := by decide +kernel
theorem dL_law_306 : decode cL_law 306 = .ok (.aload_n 0, 1) := by decide +kernel
theorem dL_law_307 : decode cL_law 307 = .ok (.iload 4, 2) := by decide +kernel
theorem dL_law_309 : decode cL_law 309 = .ok (.iconst 2, 1) := by decide +kernel
theorem dL_law_310 : decode cL_law 310 = .ok (.iadd, 1) := by decide +kernel
theorem dL_law_311 : decode cL_law 311 = .ok (.iaload, 1) := by decide +kernel
theorem dL_law_312 : decode cL_law 312 = .ok (.invokevirtual 52, 3) := by decide +kernel
theorem dL_law_315 : decode cL_law 315 = .ok (.if_icmp .eq 388, 3) := by decide +kernel
theorem dL_law_318 : decode cL_law 318 = .ok (.iconst 0, 1) := by decide +kernel
theorem dL_law_319 : decode cL_law 319 = .ok (.ireturn, 1) := by decide +kernel
theorem dL_law_320 : decode cL_law 320 = .ok (.aload_n 1, 1) := by decide +kernel
theorem dL_law_321 : decode cL_law 321 = .ok (.aload_n 0, 1) := by decide +kernel
theorem dL_law_322 : decode cL_law 322 = .ok (.iload 4, 2) := by decide +kernel
theorem dL_law_324 : decode cL_law 324 = .ok (.iconst 1, 1) := by decide +kernel
theorem dL_law_325 : decode cL_law 325 = .ok (.iadd, 1) := by decide +kernel
theorem dL_law_326 : decode cL_law 326 = .ok (.iaload, 1) := by decide +kernel
theorem dL_law_327 : decode cL_law 327 = .ok (.aload_n 0, 1) := by decide +kernel
theorem dL_law_328 : decode cL_law 328 = .ok (.iload 4, 2) := by decide +kernel
theorem dL_law_330 : decode cL_law 330 = .ok (.iconst 2, 1) := by decide +kernel
theorem dL_law_331 : decode cL_law 331 = .ok (.iadd, 1) := by decide +kernel
theorem dL_law_332 : decode cL_law 332 = .ok (.iaload, 1) := by decide +kernel
theorem dL_law_333 : decode cL_law 333 = .ok (.aload_n 0, 1) := by decide +kernel
theorem dL_law_334 : decode cL_law 334 = .ok (.iload 4, 2) := by decide +kernel
theorem dL_law_336 : decode cL_law 336 = .ok (.iconst 3, 1) := by decide +kernel
theorem dL_law_337 : decode cL_law 337 = .ok (.iadd, 1) := by decide +kernel
theorem dL_law_338 : decode cL_law 338 = .ok (.iaload, 1) := by decide +kernel
theorem dL_law_339 : decode cL_law 339 = .ok (.i2b, 1) := by decide +kernel
theorem dL_law_340 : decode cL_law 340 = .ok (.invokevirtual 53, 3) := by decide +kernel
theorem dL_law_343 : decode cL_law 343 = .ok (.aload_n 2, 1) := by decide +kernel
theorem dL_law_344 : decode cL_law 344 = .ok (.aload_n 0, 1) := by decide +kernel
theorem dL_law_345 : decode cL_law 345 = .ok (.iload 4, 2) := by decide +kernel
theorem dL_law_347 : decode cL_law 347 = .ok (.iconst 1, 1) := by decide +kernel
theorem dL_law_348 : decode cL_law 348 = .ok (.iadd, 1) := by decide +kernel
theorem dL_law_349 : decode cL_law 349 = .ok (.iaload, 1) := by decide +kernel
theorem dL_law_350 : decode cL_law 350 = .ok (.aload_n 0, 1) := by decide +kernel
theorem dL_law_351 : decode cL_law 351 = .ok (.iload 4, 2) := by decide +kernel
theorem dL_law_353 : decode cL_law 353 = .ok (.iconst 2, 1) := by decide +kernel
theorem dL_law_354 : decode cL_law 354 = .ok (.iadd, 1) := by decide +kernel
theorem dL_law_355 : decode cL_law 355 = .ok (.iaload, 1) := by decide +kernel
theorem dL_law_356 : decode cL_law 356 = .ok (.aload_n 0, 1) := by decide +kernel
theorem dL_law_357 : decode cL_law 357 = .ok (.iload 4, 2) := by decide +kernel
theorem dL_law_359 : decode cL_law 359 = .ok (.iconst 3, 1) := by decide +kernel
theorem dL_law_360 : decode cL_law 360 = .ok (.iadd, 1) := by decide +kernel
theorem dL_law_361 : decode cL_law 361 = .ok (.iaload, 1) := by decide +kernel
theorem dL_law_362 : decode cL_law 362 = .ok (.i2b, 1) := by decide +kernel
theorem dL_law_363 : decode cL_law 363 = .ok (.invokevirtual 57, 3) := by decide +kernel
theorem dL_law_366 : decode cL_law 366 = .ok (.if_icmp .eq 337, 3) := by decide +kernel
theorem dL_law_369 : decode cL_law 369 = .ok (.iconst 0, 1) := by decide +kernel
theorem dL_law_370 : decode cL_law 370 = .ok (.ireturn, 1) := by decide +kernel
theorem dL_law_371 : decode cL_law 371 = .ok (.aload_n 1, 1) := by decide +kernel
theorem dL_law_372 : decode cL_law 372 = .ok (.aload_n 0, 1) := by decide +kernel
theorem dL_law_373 : decode cL_law 373 = .ok (.iload 4, 2) := by decide +kernel
theorem dL_law_375 : decode cL_law 375 = .ok (.iconst 1, 1) := by decide +kernel
theorem dL_law_376 : decode cL_law 376 = .ok (.iadd, 1) := by decide +kernel
theorem dL_law_377 : decode cL_law 377 = .ok (.iaload, 1) := by decide +kernel
theorem dL_law_378 : decode cL_law 378 = .ok (.aload_n 0, 1) := by decide +kernel
theorem dL_law_379 : decode cL_law 379 = .ok (.iload 4, 2) := by decide +kernel
theorem dL_law_381 : decode cL_law 381 = .ok (.iconst 2, 1) := by decide +kernel
theorem dL_law_382 : decode cL_law 382 = .ok (.iadd, 1) := by decide +kernel
theorem dL_law_383 : decode cL_law 383 = .ok (.iaload, 1) := by decide +kernel
theorem dL_law_384 : decode cL_law 384 = .ok (.ifCond .eq 7, 3) := by decide +kernel
theorem dL_law_387 : decode cL_law 387 = .ok (.iconst 1, 1) := by decide +kernel
theorem dL_law_388 : decode cL_law 388 = .ok (.goto 4, 3) := by decide +kernel
theorem dL_law_391 : decode cL_law 391 = .ok (.iconst 0, 1) := by decide +kernel
theorem dL_law_392 : decode cL_law 392 = .ok (.invokevirtual 58, 3) := by decide +kernel
theorem dL_law_395 : decode cL_law 395 = .ok (.aload_n 2, 1) := by decide +kernel
theorem dL_law_396 : decode cL_law 396 = .ok (.aload_n 0, 1) := by decide +kernel
theorem dL_law_397 : decode cL_law 397 = .ok (.iload 4, 2) := by decide +kernel
theorem dL_law_399 : decode cL_law 399 = .ok (.iconst 1, 1) := by decide +kernel
theorem dL_law_400 : decode cL_law 400 = .ok (.iadd, 1) := by decide +kernel
theorem dL_law_401 : decode cL_law 401 = .ok (.iaload, 1) := by decide +kernel
theorem dL_law_402 : decode cL_law 402 = .ok (.aload_n 0, 1) := by decide +kernel
theorem dL_law_403 : decode cL_law 403 = .ok (.iload 4, 2) := by decide +kernel
theorem dL_law_405 : decode cL_law 405 = .ok (.iconst 2, 1) := by decide +kernel
theorem dL_law_406 : decode cL_law 406 = .ok (.iadd, 1) := by decide +kernel
theorem dL_law_407 : decode cL_law 407 = .ok (.iaload, 1) := by decide +kernel
theorem dL_law_408 : decode cL_law 408 = .ok (.ifCond .eq 7, 3) := by decide +kernel
theorem dL_law_411 : decode cL_law 411 = .ok (.iconst 1, 1) := by decide +kernel
theorem dL_law_412 : decode cL_law 412 = .ok (.goto 4, 3) := by decide +kernel
theorem dL_law_415 : decode cL_law 415 = .ok (.iconst 0, 1) := by decide +kernel
theorem dL_law_416 : decode cL_law 416 = .ok (.invokevirtual 62, 3) := by decide +kernel
theorem dL_law_419 : decode cL_law 419 = .ok (.if_icmp .eq 284, 3) := by decide +kernel
theorem dL_law_422 : decode cL_law 422 = .ok (.iconst 0, 1) := by decide +kernel
theorem dL_law_423 : decode cL_law 423 = .ok (.ireturn, 1) := by decide +kernel
theorem dL_law_424 : decode cL_law 424 = .ok (.aload_n 1, 1) := by decide +kernel
theorem dL_law_425 : decode cL_law 425 = .ok (.aload_n 0, 1) := by decide +kernel
theorem dL_law_426 : decode cL_law 426 = .ok (.iload 4, 2) := by decide +kernel
theorem dL_law_428 : decode cL_law 428 = .ok (.iconst 1, 1) := by decide +kernel
theorem dL_law_429 : decode cL_law 429 = .ok (.iadd, 1) := by decide +kernel
theorem dL_law_430 : decode cL_law 430 = .ok (.iaload, 1) := by decide +kernel
theorem dL_law_431 : decode cL_law 431 = .ok (.invokevirtual 63, 3) := by decide +kernel
theorem dL_law_434 : decode cL_law 434 = .ok (.aload_n 2, 1) := by decide +kernel
theorem dL_law_435 : decode cL_law 435 = .ok (.aload_n 0, 1) := by decide +kernel
theorem dL_law_436 : decode cL_law 436 = .ok (.iload 4, 2) := by decide +kernel
theorem dL_law_438 : decode cL_law 438 = .ok (.iconst 1, 1) := by decide +kernel
theorem dL_law_439 : decode cL_law 439 = .ok (.iadd, 1) := by decide +kernel
theorem dL_law_440 : decode cL_law 440 = .ok (.iaload, 1) := by decide +kernel
theorem dL_law_441 : decode cL_law 441 = .ok (.invokevirtual 66, 3) := by decide +kernel
theorem dL_law_444 : decode cL_law 444 = .ok (.if_icmp .eq 259, 3) := by decide +kernel
theorem dL_law_447 : decode cL_law 447 = .ok (.iconst 0, 1) := by decide +kernel
theorem dL_law_448 : decode cL_law 448 = .ok (.ireturn, 1) := by decide +kernel
theorem dL_law_449 : decode cL_law 449 = .ok (.aload_n 1, 1) := by decide +kernel
theorem dL_law_450 : decode cL_law 450 = .ok (.invokevirtual 67, 3) := by decide +kernel
theorem dL_law_453 : decode cL_law 453 = .ok (.aload_n 2, 1) := by decide +kernel
theorem dL_law_454 : decode cL_law 454 = .ok (.invokevirtual 70, 3) := by decide +kernel
theorem dL_law_457 : decode cL_law 457 = .ok (.if_icmp .eq 246, 3) := by decide +kernel
theorem dL_law_460 : decode cL_law 460 = .ok (.iconst 0, 1) := by decide +kernel
theorem dL_law_461 : decode cL_law 461 = .ok (.ireturn, 1) := by decide +kernel
theorem dL_law_462 : decode cL_law 462 = .ok (.aload_n 1, 1) := by decide +kernel
theorem dL_law_463 : decode cL_law 463 = .ok (.aload_n 0, 1) := by decide +kernel
theorem dL_law_464 : decode cL_law 464 = .ok (.iload 4, 2) := by decide +kernel
theorem dL_law_466 : decode cL_law 466 = .ok (.iconst 1, 1) := by decide +kernel
theorem dL_law_467 : decode cL_law 467 = .ok (.iadd, 1) := by decide +kernel
theorem dL_law_468 : decode cL_law 468 = .ok (.iaload, 1) := by decide +kernel
theorem dL_law_469 : decode cL_law 469 = .ok (.invokevirtual 71, 3) := by decide +kernel
theorem dL_law_472 : decode cL_law 472 = .ok (.aload_n 2, 1) := by decide +kernel
theorem dL_law_473 : decode cL_law 473 = .ok (.aload_n 0, 1) := by decide +kernel
theorem dL_law_474 : decode cL_law 474 = .ok (.iload 4, 2) := by decide +kernel
theorem dL_law_476 : decode cL_law 476 = .ok (.iconst 1, 1) := by decide +kernel
theorem dL_law_477 : decode cL_law 477 = .ok (.iadd, 1) := by decide +kernel
theorem dL_law_478 : decode cL_law 478 = .ok (.iaload, 1) := by decide +kernel
theorem dL_law_479 : decode cL_law 479 = .ok (.invokevirtual 74, 3) := by decide +kernel
theorem dL_law_482 : decode cL_law 482 = .ok (.if_icmp .eq 221, 3) := by decide +kernel
theorem dL_law_485 : decode cL_law 485 = .ok (.iconst 0, 1) := by decide +kernel
theorem dL_law_486 : decode cL_law 486 = .ok (.ireturn, 1) := by decide +kernel
theorem dL_law_487 : decode cL_law 487 = .ok (.aload_n 1, 1) := by decide +kernel
theorem dL_law_488 : decode cL_law 488 = .ok (.aload_n 0, 1) := by decide +kernel
theorem dL_law_489 : decode cL_law 489 = .ok (.iload 4, 2) := by decide +kernel
theorem dL_law_491 : decode cL_law 491 = .ok (.iconst 1, 1) := by decide +kernel
theorem dL_law_492 : decode cL_law 492 = .ok (.iadd, 1) := by decide +kernel
theorem dL_law_493 : decode cL_law 493 = .ok (.iaload, 1) := by decide +kernel
theorem dL_law_494 : decode cL_law 494 = .ok (.aload_n 0, 1) := by decide +kernel
theorem dL_law_495 : decode cL_law 495 = .ok (.iload 4, 2) := by decide +kernel
theorem dL_law_497 : decode cL_law 497 = .ok (.iconst 2, 1) := by decide +kernel
theorem dL_law_498 : decode cL_law 498 = .ok (.iadd, 1) := by decide +kernel
theorem dL_law_499 : decode cL_law 499 = .ok (.iaload, 1) := by decide +kernel
theorem dL_law_500 : decode cL_law 500 = .ok (.aload_n 0, 1) := by decide +kernel
theorem dL_law_501 : decode cL_law 501 = .ok (.iload 4, 2) := by decide +kernel
theorem dL_law_503 : decode cL_law 503 = .ok (.iconst 3, 1) := by decide +kernel
theorem dL_law_504 : decode cL_law 504 = .ok (.iadd, 1) := by decide +kernel
theorem dL_law_505 : decode cL_law 505 = .ok (.iaload, 1) := by decide +kernel
theorem dL_law_506 : decode cL_law 506 = .ok (.i2l, 1) := by decide +kernel
theorem dL_law_507 : decode cL_law 507 = .ok (.bipush 32, 2) := by decide +kernel
theorem dL_law_509 : decode cL_law 509 = .ok (.lshl, 1) := by decide +kernel
theorem dL_law_510 : decode cL_law 510 = .ok (.aload_n 0, 1) := by decide +kernel
theorem dL_law_511 : decode cL_law 511 = .ok (.iload 4, 2) := by decide +kernel
theorem dL_law_513 : decode cL_law 513 = .ok (.iconst 4, 1) := by decide +kernel
theorem dL_law_514 : decode cL_law 514 = .ok (.iadd, 1) := by decide +kernel
theorem dL_law_515 : decode cL_law 515 = .ok (.iaload, 1) := by decide +kernel
theorem dL_law_516 : decode cL_law 516 = .ok (.i2l, 1) := by decide +kernel
theorem dL_law_517 : decode cL_law 517 = .ok (.ldc2_w 75, 3) := by decide +kernel
theorem dL_law_520 : decode cL_law 520 = .ok (.land, 1) := by decide +kernel
theorem dL_law_521 : decode cL_law 521 = .ok (.lor, 1) := by decide +kernel
theorem dL_law_522 : decode cL_law 522 = .ok (.aload_n 3, 1) := by decide +kernel
theorem dL_law_523 : decode cL_law 523 = .ok (.invokestatic 77, 3) := by decide +kernel
theorem dL_law_526 : decode cL_law 526 = .ok (.istore 5, 2) := by decide +kernel
theorem dL_law_528 : decode cL_law 528 = .ok (.aload_n 2, 1) := by decide +kernel
theorem dL_law_529 : decode cL_law 529 = .ok (.aload_n 0, 1) := by decide +kernel
theorem dL_law_530 : decode cL_law 530 = .ok (.iload 4, 2) := by decide +kernel
theorem dL_law_532 : decode cL_law 532 = .ok (.iconst 1, 1) := by decide +kernel
theorem dL_law_533 : decode cL_law 533 = .ok (.iadd, 1) := by decide +kernel
theorem dL_law_534 : decode cL_law 534 = .ok (.iaload, 1) := by decide +kernel
theorem dL_law_535 : decode cL_law 535 = .ok (.aload_n 0, 1) := by decide +kernel
theorem dL_law_536 : decode cL_law 536 = .ok (.iload 4, 2) := by decide +kernel
theorem dL_law_538 : decode cL_law 538 = .ok (.iconst 2, 1) := by decide +kernel
theorem dL_law_539 : decode cL_law 539 = .ok (.iadd, 1) := by decide +kernel
theorem dL_law_540 : decode cL_law 540 = .ok (.iaload, 1) := by decide +kernel
theorem dL_law_541 : decode cL_law 541 = .ok (.aload_n 0, 1) := by decide +kernel
theorem dL_law_542 : decode cL_law 542 = .ok (.iload 4, 2) := by decide +kernel
theorem dL_law_544 : decode cL_law 544 = .ok (.iconst 3, 1) := by decide +kernel
theorem dL_law_545 : decode cL_law 545 = .ok (.iadd, 1) := by decide +kernel
theorem dL_law_546 : decode cL_law 546 = .ok (.iaload, 1) := by decide +kernel
theorem dL_law_547 : decode cL_law 547 = .ok (.i2l, 1) := by decide +kernel
theorem dL_law_548 : decode cL_law 548 = .ok (.bipush 32, 2) := by decide +kernel
theorem dL_law_550 : decode cL_law 550 = .ok (.lshl, 1) := by decide +kernel
theorem dL_law_551 : decode cL_law 551 = .ok (.aload_n 0, 1) := by decide +kernel
theorem dL_law_552 : decode cL_law 552 = .ok (.iload 4, 2) := by decide +kernel
theorem dL_law_554 : decode cL_law 554 = .ok (.iconst 4, 1) := by decide +kernel
theorem dL_law_555 : decode cL_law 555 = .ok (.iadd, 1) := by decide +kernel
theorem dL_law_556 : decode cL_law 556 = .ok (.iaload, 1) := by decide +kernel
theorem dL_law_557 : decode cL_law 557 = .ok (.i2l, 1) := by decide +kernel
theorem dL_law_558 : decode cL_law 558 = .ok (.ldc2_w 75, 3) := by decide +kernel
theorem dL_law_561 : decode cL_law 561 = .ok (.land, 1) := by decide +kernel
theorem dL_law_562 : decode cL_law 562 = .ok (.lor, 1) := by decide +kernel
theorem dL_law_563 : decode cL_law 563 = .ok (.invokevirtual 80, 3) := by decide +kernel
theorem dL_law_566 : decode cL_law 566 = .ok (.istore 6, 2) := by decide +kernel
theorem dL_law_568 : decode cL_law 568 = .ok (.aload_n 2, 1) := by decide +kernel
theorem dL_law_569 : decode cL_law 569 = .ok (.invokevirtual 44, 3) := by decide +kernel
theorem dL_law_572 : decode cL_law 572 = .ok (.iload 5, 2) := by decide +kernel
theorem dL_law_574 : decode cL_law 574 = .ok (.if_icmp .eq 5, 3) := by decide +kernel
theorem dL_law_577 : decode cL_law 577 = .ok (.iconst 0, 1) := by decide +kernel
theorem dL_law_578 : decode cL_law 578 = .ok (.ireturn, 1) := by decide +kernel
theorem dL_law_579 : decode cL_law 579 = .ok (.iload 5, 2) := by decide +kernel
theorem dL_law_581 : decode cL_law 581 = .ok (.ifCond .ne 15, 3) := by decide +kernel
theorem dL_law_584 : decode cL_law 584 = .ok (.aload_n 3, 1) := by decide +kernel
theorem dL_law_585 : decode cL_law 585 = .ok (.iconst 0, 1) := by decide +kernel
theorem dL_law_586 : decode cL_law 586 = .ok (.laload, 1) := by decide +kernel
theorem dL_law_587 : decode cL_law 587 = .ok (.iload 6, 2) := by decide +kernel
theorem dL_law_589 : decode cL_law 589 = .ok (.i2l, 1) := by decide +kernel
theorem dL_law_590 : decode cL_law 590 = .ok (.lcmp, 1) := by decide +kernel
theorem dL_law_591 : decode cL_law 591 = .ok (.ifCond .eq 5, 3) := by decide +kernel
theorem dL_law_594 : decode cL_law 594 = .ok (.iconst 0, 1) := by decide +kernel
theorem dL_law_595 : decode cL_law 595 = .ok (.ireturn, 1) := by decide +kernel
theorem dL_law_596 : decode cL_law 596 = .ok (.goto 107, 3) := by decide +kernel
theorem dL_law_599 : decode cL_law 599 = .ok (.aload_n 1, 1) := by decide +kernel
theorem dL_law_600 : decode cL_law 600 = .ok (.invokevirtual 81, 3) := by decide +kernel
theorem dL_law_603 : decode cL_law 603 = .ok (.aload_n 2, 1) := by decide +kernel
theorem dL_law_604 : decode cL_law 604 = .ok (.invokevirtual 84, 3) := by decide +kernel
theorem dL_law_607 : decode cL_law 607 = .ok (.if_icmp .eq 96, 3) := by decide +kernel
theorem dL_law_610 : decode cL_law 610 = .ok (.iconst 0, 1) := by decide +kernel
theorem dL_law_611 : decode cL_law 611 = .ok (.ireturn, 1) := by decide +kernel
theorem dL_law_612 : decode cL_law 612 = .ok (.aload_n 1, 1) := by decide +kernel
theorem dL_law_613 : decode cL_law 613 = .ok (.invokevirtual 85, 3) := by decide +kernel
theorem dL_law_616 : decode cL_law 616 = .ok (.aload_n 2, 1) := by decide +kernel
theorem dL_law_617 : decode cL_law 617 = .ok (.invokevirtual 88, 3) := by decide +kernel
theorem dL_law_620 : decode cL_law 620 = .ok (.if_icmp .eq 83, 3) := by decide +kernel
theorem dL_law_623 : decode cL_law 623 = .ok (.iconst 0, 1) := by decide +kernel
theorem dL_law_624 : decode cL_law 624 = .ok (.ireturn, 1) := by decide +kernel
theorem dL_law_625 : decode cL_law 625 = .ok (.aload_n 1, 1) := by decide +kernel
theorem dL_law_626 : decode cL_law 626 = .ok (.aload_n 0, 1) := by decide +kernel
theorem dL_law_627 : decode cL_law 627 = .ok (.iload 4, 2) := by decide +kernel
theorem dL_law_629 : decode cL_law 629 = .ok (.iconst 1, 1) := by decide +kernel
theorem dL_law_630 : decode cL_law 630 = .ok (.iadd, 1) := by decide +kernel
theorem dL_law_631 : decode cL_law 631 = .ok (.iaload, 1) := by decide +kernel
theorem dL_law_632 : decode cL_law 632 = .ok (.aload_n 0, 1) := by decide +kernel
theorem dL_law_633 : decode cL_law 633 = .ok (.iload 4, 2) := by decide +kernel
theorem dL_law_635 : decode cL_law 635 = .ok (.iconst 2, 1) := by decide +kernel
theorem dL_law_636 : decode cL_law 636 = .ok (.iadd, 1) := by decide +kernel
theorem dL_law_637 : decode cL_law 637 = .ok (.iaload, 1) := by decide +kernel
theorem dL_law_638 : decode cL_law 638 = .ok (.ifCond .eq 7, 3) := by decide +kernel
theorem dL_law_641 : decode cL_law 641 = .ok (.iconst 1, 1) := by decide +kernel
theorem dL_law_642 : decode cL_law 642 = .ok (.goto 4, 3) := by decide +kernel
theorem dL_law_645 : decode cL_law 645 = .ok (.iconst 0, 1) := by decide +kernel
theorem dL_law_646 : decode cL_law 646 = .ok (.invokevirtual 89, 3) := by decide +kernel
theorem dL_law_649 : decode cL_law 649 = .ok (.aload_n 2, 1) := by decide +kernel
theorem dL_law_650 : decode cL_law 650 = .ok (.aload_n 0, 1) := by decide +kernel
theorem dL_law_651 : decode cL_law 651 = .ok (.iload 4, 2) := by decide +kernel
theorem dL_law_653 : decode cL_law 653 = .ok (.iconst 1, 1) := by decide +kernel
theorem dL_law_654 : decode cL_law 654 = .ok (.iadd, 1) := by decide +kernel
theorem dL_law_655 : decode cL_law 655 = .ok (.iaload, 1) := by decide +kernel
theorem dL_law_656 : decode cL_law 656 = .ok (.aload_n 0, 1) := by decide +kernel
theorem dL_law_657 : decode cL_law 657 = .ok (.iload 4, 2) := by decide +kernel
theorem dL_law_659 : decode cL_law 659 = .ok (.iconst 2, 1) := by decide +kernel
theorem dL_law_660 : decode cL_law 660 = .ok (.iadd, 1) := by decide +kernel
theorem dL_law_661 : decode cL_law 661 = .ok (.iaload, 1) := by decide +kernel
theorem dL_law_662 : decode cL_law 662 = .ok (.ifCond .eq 7, 3) := by decide +kernel
theorem dL_law_665 : decode cL_law 665 = .ok (.iconst 1, 1) := by decide +kernel
theorem dL_law_666 : decode cL_law 666 = .ok (.goto 4, 3) := by decide +kernel
theorem dL_law_669 : decode cL_law 669 = .ok (.iconst 0, 1) := by decide +kernel
theorem dL_law_670 : decode cL_law 670 = .ok (.invokevirtual 92, 3) := by decide +kernel
theorem dL_law_673 : decode cL_law 673 = .ok (.if_icmp .eq 30, 3) := by decide +kernel
theorem dL_law_676 : decode cL_law 676 = .ok (.iconst 0, 1) := by decide +kernel
theorem dL_law_677 : decode cL_law 677 = .ok (.ireturn, 1) := by decide +kernel
theorem dL_law_678 : decode cL_law 678 = .ok (.aload_n 1, 1) := by decide +kernel
theorem dL_law_679 : decode cL_law 679 = .ok (.aload_n 0, 1) := by decide +kernel
theorem dL_law_680 : decode cL_law 680 = .ok (.iload 4, 2) := by decide +kernel
theorem dL_law_682 : decode cL_law 682 = .ok (.iconst 1, 1) := by decide +kernel
theorem dL_law_683 : decode cL_law 683 = .ok (.iadd, 1) := by decide +kernel
theorem dL_law_684 : decode cL_law 684 = .ok (.iaload, 1) := by decide +kernel
theorem dL_law_685 : decode cL_law 685 = .ok (.invokevirtual 93, 3) := by decide +kernel
theorem dL_law_688 : decode cL_law 688 = .ok (.aload_n 2, 1) := by decide +kernel
theorem dL_law_689 : decode cL_law 689 = .ok (.aload_n 0, 1) := by decide +kernel
theorem dL_law_690 : decode cL_law 690 = .ok (.iload 4, 2) := by decide +kernel
theorem dL_law_692 : decode cL_law 692 = .ok (.iconst 1, 1) := by decide +kernel
theorem dL_law_693 : decode cL_law 693 = .ok (.iadd, 1) := by decide +kernel
theorem dL_law_694 : decode cL_law 694 = .ok (.iaload, 1) := by decide +kernel
theorem dL_law_695 : decode cL_law 695 = .ok (.invokevirtual 96, 3) := by decide +kernel
theorem dL_law_698 : decode cL_law 698 = .ok (.if_icmp .eq 5, 3) := by decide +kernel
theorem dL_law_701 : decode cL_law 701 = .ok (.iconst 0, 1) := by decide +kernel
theorem dL_law_702 : decode cL_law 702 = .ok (.ireturn, 1) := by decide +kernel
theorem dL_law_703 : decode cL_law 703 = .ok (.iinc 4 5, 3) := by decide +kernel
theorem dL_law_706 : decode cL_law 706 = .ok (.goto (-683), 3) := by decide +kernel
theorem dL_law_709 : decode cL_law 709 = .ok (.iconst 1, 1) := by decide +kernel
theorem dL_law_710 : decode cL_law 710 = .ok (.ireturn, 1) := by decide +kernel
end
section
/-! the world: cell k of the class and of the reference lies at B k and holds u k; 0 the reference, 1 .. 28 its arrays, 29 the class's object, 30 its controllers, 31 its octets, 32 the digester, 33 .. 35 its arrays, 36 + 8 i .. 43 + 8 i controller i (itself, banks, bank 0, octets, bank 1, octets, pack, octets) -/
abbrev ww_U : Type := Nat → Nat → Int32
def ww_up (u : ww_U) (k j : Nat) (x : Int32) : ww_U := fun a => if a = k then upd (u k) j x else u a
abbrev ww_cl : List vw_C := [(RX0, TX0, 3), (RX1, TX1, 10), (RX2, TX2, 3), (RX3, TX3, 8), (RX4, TX4, 8), (RX5, TX5, 36)]
abbrev ww_ty (ca : Nat → ClassId) : List (ClassId × FieldType) := [(ca 0, .int), (ca 1, .byte), (ca 2, .boolean), (ca 3, .object RX1), (ca 4, .object RX0)]
def ww_fm (B : Nat → Nat) (f : Nat → Int32) : List Value := [.int (f 0), .int (f 1), .ref (B 1), .ref (B 2), .ref (B 3), .ref (B 4), .ref (B 5), .ref (B 6), .ref (B 7), .ref (B 8), .ref (B 9), .ref (B 10), .int (f 12), .ref (B 11), .ref (B 12), .ref (B 13), .ref (B 14), .ref (B 15), .ref (B 16), .ref (B 17), .ref (B 18), .ref (B 19), .int (f 22), .ref (B 20), .int (f 24), .ref (B 21), .int (f 26), .int (f 27), .int (f 28), .ref (B 22), .ref (B 23), .ref (B 24), .ref (B 25), .ref (B 26), .ref (B 27), .ref (B 28)]
def ww_fu (B : Nat → Nat) (f : Nat → Int32) : List Value := [.ref (B 30), .int (f 1), .int (f 2), .ref (B 31), .int (f 4), .int (f 5), .int (f 6), .ref (B 32)]
def ww_fd (B : Nat → Nat) : List Value := [.ref (B 33), .ref (B 34), .ref (B 35)]
def ww_fc (B : Nat → Nat) (k : Nat) (f : Nat → Int32) : List Value := [.int (f 0), .ref (B (k + 1)), .ref (B (k + 6)), .int (f 3), .int (f 4), .int (f 5), .int (f 6), .int (f 7), .int (f 8), .int (f 9)]
def ww_fb (B : Nat → Nat) (k : Nat) (f : Nat → Int32) : List Value := [.ref (B (k + 1)), .int (f 1), .int (f 2)]
def ww_fp (B : Nat → Nat) (k : Nat) (f : Nat → Int32) : List Value := [.ref (B (k + 1)), .int (f 1), .int (f 2), .int (f 3), .int (f 4), .int (f 5), .int (f 6), .int (f 7)]
def ww_cc (ca : Nat → ClassId) (B : Nat → Nat) (r k : Nat) (f : Nat → Int32) : va_E := match r with
  | 0 => .inr (1, ww_fc B k f)
  | 1 => .inl (ca 4, 2, .inr (.inr (.inr (.inr (fun b => some (B (k + 1 + 2 * b)))))))
  | 2 => .inr (0, ww_fb B k f)
  | 3 => .inl (ca 1, 256, .inl f)
  | 4 => .inr (0, ww_fb B k f)
  | 5 => .inl (ca 1, 256, .inl f)
  | 6 => .inr (3, ww_fp B k f)
  | _ => .inl (ca 1, 256, .inl f)
def ww_tab (ca : Nat → ClassId) (B : Nat → Nat) (n : Nat) (f : Nat → Int32) : List va_E := [.inr (5, ww_fm B f), .inl (ca 0, 9, .inl f), .inl (ca 0, 9, .inl f), .inl (ca 0, 9, .inl f), .inl (ca 0, 9, .inl f), .inl (ca 2, 9, .inl f), .inl (ca 2, 9, .inl f), .inl (ca 0, 9, .inl f), .inl (ca 0, 9, .inl f), .inl (ca 0, 18, .inl f), .inl (ca 0, 4608, .inl f), .inl (ca 0, 61, .inl f), .inl (ca 0, 61, .inl f), .inl (ca 0, 61, .inl f), .inl (ca 0, 61, .inl f), .inl (ca 0, 61, .inl f), .inl (ca 0, 61, .inl f), .inl (ca 0, 61, .inl f), .inl (ca 2, 61, .inl f), .inl (ca 0, 15616, .inl f), .inl (ca 0, 256, .inl f), .inl (ca 0, 32, .inl f), .inl (ca 0, 8, .inl f), .inl (ca 0, 64, .inl f), .inl (ca 0, 12, .inl f), .inl (ca 0, 12, .inl f), .inl (ca 0, 8, .inl f), .inl (ca 0, 64, .inl f), .inl (ca 0, 8, .inl f), .inr (4, ww_fu B f), .inl (ca 3, 8, .inr (.inr (.inr (.inr (fun i => if i < n then some (B (36 + 8 * i)) else none))))), .inl (ca 1, 256, .inl f), .inr (2, ww_fd B), .inl (ca 1, 320, .inl f), .inl (ca 0, 64, .inl f), .inl (ca 0, 8, .inl f)]
def ww_ce (ca : Nat → ClassId) (B : Nat → Nat) (n k : Nat) (f : Nat → Int32) : va_E := ((ww_tab ca B n f)[k]?).getD (ww_cc ca B ((k - 36) % 8) k f)
def ww_l (ca : Nat → ClassId) (B : Nat → Nat) (N n : Nat) (u : ww_U) (X : va_W) : va_W := (List.range N).map (fun k => (B k, ww_ce ca B n k (u k))) ++ X
theorem ww_at {ca : Nat → ClassId} {B : Nat → Nat} {N n : Nat} {u : ww_U} {X : va_W} {k : Nat} (h : k < N) : (ww_l ca B N n u X)[k]? = some (B k, ww_ce ca B n k (u k)) := by
  unfold ww_l
  rw [List.getElem?_append_left (by simpa using h), List.getElem?_map, List.getElem?_range h]
  rfl
theorem ww_ctl {ca : Nat → ClassId} {B : Nat → Nat} {n k : Nat} {f : Nat → Int32} (i c : Nat) (hc : c < 8) (hk : k = 36 + 8 * i + c) : ww_ce ca B n k f = ww_cc ca B c k f := by
  unfold ww_ce
  have h1 : (ww_tab ca B n f)[k]? = none := by
    rw [List.getElem?_eq_none_iff]
    show 36 ≤ k
    omega
  rw [h1]
  have h2 : (k - 36) % 8 = c := by omega
  rw [h2]
  rfl
theorem ww_set {ca : Nat → ClassId} {B : Nat → Nat} {N n : Nat} {u : ww_U} {X : va_W} {k : Nat} (h : k < N) (g : Nat → Int32) : (ww_l ca B N n u X).set k (B k, ww_ce ca B n k g) = ww_l ca B N n (fun a => if a = k then g else u a) X := by
  apply List.ext_getElem?
  intro q
  have hl : k < (ww_l ca B N n u X).length := by unfold ww_l; simp; omega
  by_cases hq : q = k
  · subst hq
    rw [List.getElem?_set_self hl, ww_at h]
    simp
  · rw [List.getElem?_set_ne (Ne.symm hq)]
    by_cases hN : q < N
    · rw [ww_at hN, ww_at hN]
      simp [hq]
    · unfold ww_l
      rw [List.getElem?_append_right (by simp; omega), List.getElem?_append_right (by simp; omega)]
      simp
theorem ww_set' {ca : Nat → ClassId} {B : Nat → Nat} {N n : Nat} {u : ww_U} {X : va_W} {k : Nat} (h : k < N) {j : Nat} {x : Int32} {e : va_E} (he : ww_ce ca B n k (upd (u k) j x) = e) : (ww_l ca B N n u X).set k (B k, e) = ww_l ca B N n (ww_up u k j x) X := by
  rw [← he]
  exact ww_set h _
def ww_A (B : Nat → Nat) (N : Nat) (X : va_W) (sz : Nat) : Nat → Prop := fun q => (∃ k, k < N ∧ q = B k) ∨ (∃ (k : Nat) (e : va_E), X[k]? = some (q, e)) ∨ sz ≤ q
theorem ww_A_in {ca : Nat → ClassId} {B : Nat → Nat} {N n : Nat} {u : ww_U} {X : va_W} {sz q : Nat} {A : Nat → Prop} (hD : va_D A (ww_l ca B N n u X)) (hA : ∀ q, sz ≤ q → A q) (h : ww_A B N X sz q) : A q := by
  rcases h with ⟨k, h1, rfl⟩ | ⟨k, e, h1⟩ | h
  · exact hD.2 k _ (ww_at h1)
  · have h2 : (ww_l ca B N n u X)[N + k]? = some (q, e) := by
      unfold ww_l
      rw [List.getElem?_append_right (by simp)]
      simpa using h1
    exact hD.2 _ _ h2
  · exact hA q h
theorem ww_D_self {ca : Nat → ClassId} {B : Nat → Nat} {N n : Nat} {u : ww_U} {X : va_W} {sz : Nat} {A : Nat → Prop} (hD : va_D A (ww_l ca B N n u X)) : va_D (ww_A B N X sz) (ww_l ca B N n u X) := by
  refine ⟨hD.1, fun k q hk => ?_⟩
  by_cases hN : k < N
  · rw [ww_at hN] at hk
    cases hk
    exact Or.inl ⟨k, hN, rfl⟩
  · unfold ww_l at hk
    rw [List.getElem?_append_right (by simp; omega)] at hk
    obtain ⟨a, e⟩ := q
    exact Or.inr (Or.inl ⟨_, e, hk⟩)
def ww_sq (j : Nat) : Int32 := ([0x6a09e667, 0xbb67ae85, 0x3c6ef372, 0xa54ff53a, 0x510e527f, 0x9b05688c, 0x1f83d9ab, 0x5be0cd19] : List Int32).getD j 0
def ww_cu (j : Nat) : Int32 := ([0x428a2f98, 0x71374491, 0xb5c0fbcf, 0xe9b5dba5, 0x3956c25b, 0x59f111f1, 0x923f82a4, 0xab1c5ed5,
  0xd807aa98, 0x12835b01, 0x243185be, 0x550c7dc3, 0x72be5d74, 0x80deb1fe, 0x9bdc06a7, 0xc19bf174,
  0xe49b69c1, 0xefbe4786, 0x0fc19dc6, 0x240ca1cc, 0x2de92c6f, 0x4a7484aa, 0x5cb0a9dc, 0x76f988da,
  0x983e5152, 0xa831c66d, 0xb00327c8, 0xbf597fc7, 0xc6e00bf3, 0xd5a79147, 0x06ca6351, 0x14292967,
  0x27b70a85, 0x2e1b2138, 0x4d2c6dfc, 0x53380d13, 0x650a7354, 0x766a0abb, 0x81c2c92e, 0x92722c85,
  0xa2bfe8a1, 0xa81a664b, 0xc24b8b70, 0xc76c51a3, 0xd192e819, 0xd6990624, 0xf40e3585, 0x106aa070,
  0x19a4c116, 0x1e376c08, 0x2748774c, 0x34b0bcb5, 0x391c0cb3, 0x4ed8aa4a, 0x5b9cca4f, 0x682e6ff3,
  0x748f82ee, 0x78a5636f, 0x84c87814, 0x8cc70208, 0x90befffa, 0xa4506ceb, 0xbef9a3f7, 0xc67178f2] : List Int32).getD j 0
/-- the two written-out arrays of the digester -/
def ww_St (A : Nat → Prop) (U : State) (H : Heap) : Prop := ∃ t1 t2 : Nat, (va_Z RX2 "SQUARE_ROOTS" "[I" (.ref t1) A U H ∧ va_T .int t1 8 (fun j => .int (ww_sq j)) A U H) ∧ va_Z RX2 "CUBE_ROOTS" "[I" (.ref t2) A U H ∧ va_T .int t2 64 (fun j => .int (ww_cu j)) A U H
theorem ww_St.moved {A : Nat → Prop} {u U : State} {H : Heap} (hvm : u.vm.Alike U.vm) (h : ww_St A u H) : ww_St A U H := by
  obtain ⟨t1, t2, ⟨h1, h2⟩, h3, h4⟩ := h
  exact ⟨t1, t2, ⟨h1.moved hvm, h2.moved hvm⟩, h3.moved hvm, h4.moved hvm⟩
theorem ww_St.kept {A : Nat → Prop} {U : State} {H H1 : Heap} (h : ww_St A U H) (hq : ∀ a : Nat, a < H.size → ¬ A a → H1[a]? = H[a]?) : ww_St A U H1 := by
  obtain ⟨t1, t2, ⟨h1, h2⟩, h3, h4⟩ := h
  exact ⟨t1, t2, ⟨h1.kept hq, h2.kept hq⟩, h3.kept hq, h4.kept hq⟩
theorem ww_St.narrow {A B : Nat → Prop} {U : State} {H : Heap} (h : ww_St A U H) (hAB : ∀ q, B q → A q) : ww_St B U H := by
  obtain ⟨t1, t2, ⟨h1, h2⟩, h3, h4⟩ := h
  exact ⟨t1, t2, ⟨h1.narrow hAB, h2.narrow hAB⟩, h3.narrow hAB, h4.narrow hAB⟩
/-- the world at a state -/
def ww_Wd (D : va_G) (ca : Nat → ClassId) (B : Nat → Nat) (N n : Nat) (u : ww_U) (X : va_W) (A : Nat → Prop) (U : State) : Prop := va_P D ww_cl (ww_l ca B N n u X) U.heap ∧ va_K D ww_cl (ww_ty ca) U ∧ va_D A (ww_l ca B N n u X) ∧ ww_St A U U.heap
/-- the world now, inside a method -/
def ww_N (D : va_G) (ca : Nat → ClassId) (B : Nat → Nat) (N n : Nat) (u : ww_U) (X : va_W) (A : Nat → Prop) (H0 H : Heap) (locs : List Loc) : Prop := va_P D ww_cl (ww_l ca B N n u X) H ∧ va_D A (ww_l ca B N n u X) ∧ va_S A H0 H locs
/-- what stays inside a method -/
def ww_C (D : va_G) (ca : Nat → ClassId) (own : String) (cc : ByteArray) (nL : Nat) (Ts : List Cond) (ret : Option FieldType) (A : Nat → Prop) (p : Program) (s : State) (m : MethodId) (args : Array Value) (meth : Method) (c : Code) : Prop :=
  CallFix p m c cc nL s args Ts own ∧ meth.sig.returnType = ret ∧ meth.locks = false ∧ va_K D ww_cl (ww_ty ca) s ∧ (∀ q, s.heap.size ≤ q → A q) ∧ ww_St A s s.heap
def ww_Q (D : va_G) (ca : Nat → ClassId) (B : Nat → Nat) (N n : Nat) (X : va_W) (sz : Nat) (r : Option Value) (u' : ww_U) : Array Value → State → Outcome → State → Prop := fun _ st oc t => (oc = .returned r ∧ ww_Wd D ca B N n u' X (ww_A B N X sz) t) ∧ va_F (ww_A B N X sz) st t
/-- a contract: from the world u with the arguments av the method answers r and leaves the world u' -/
def ww_M (l : Launch) (y : MethodName) (ws : List Cond) (rm : Room) (D : va_G) (ca : Nat → ClassId) (B : Nat → Nat) (N n : Nat) (X : va_W) (u : ww_U) (av : List Value) (r : Option Value) (u' : ww_U) : Prop :=
  ∀ sz : Nat, Met l y ws rm (va_Pc av (fun U => U.heap.size = sz ∧ ww_Wd D ca B N n u X (ww_A B N X sz) U)) (ww_Q D ca B N n X sz r u') 0 0 (ww_A B N X sz)
/-- a class's words and table in a method's words -/
def ww_K (Ts : List Cond) (Cn : String) (T : u_T) (NN : Nat) (ty0 : Nat → FieldType) : Prop := (∀ w ∈ u_ws Cn T NN, w ∈ Ts) ∧ (∀ k, k < NN → parseFieldDescriptor (T k).2.2.1 = some (ty0 k)) ∧ ∀ a, a < NN → ∀ b, b < NN → a ≠ b → (T a).2.1 ≠ (T b).2.1
theorem ww_met {l : Launch} {y : MethodName} {ws ws' : List Cond} {rm : Room} {D : va_G} {ca : Nat → ClassId} {B : Nat → Nat} {N n : Nat} {X : va_W} {u : ww_U} {av : List Value} {r : Option Value} {u' : ww_U} {cc : ByteArray} {maxL : Nat} {ret : Option FieldType}
    (hy : plainName y.cls = true) (hw : ws = Cond.code y cc maxL ret :: ws') (hlen : (lg_sl av).length ≤ maxL)
    (body : ∀ (p : Program) (e : Env) (s : State) (m : MethodId) (args : Array Value) (below : List Frame) (meth : Method) (c : Code), ww_C D ca y.cls cc maxL ws ret (ww_A B N X s.heap.size) p s m args meth c → ww_N D ca B N n u X (ww_A B N X s.heap.size) s.heap s.heap [] → ∀ ls : Array Slot, lv_has ls maxL (lv_args 0 av) →
      W p l e (headSpec ws rm).room s m args below meth c s.heap [] 0 0 (MQ below (ww_Q D ca B N n X s.heap.size r u') args s 0 0 (ww_A B N X s.heap.size)) (F0 m 0 ls [])) : ww_M l y ws rm D ca B N n X u av r u' := by
  intro sz
  refine Met.ofW (cc := cc) (maxL := maxL) (ret := ret) hy hw ?_
  intro p e s m args below meth c s₁ Bd hml hv
  obtain ⟨rfl, hsz, hP, hK, hD, hSt⟩ := hv
  subst hsz
  have hl := lv_entry av (n := maxL) hlen
  rw [lg_entry_eq]
  generalize (lg_sl av ++ List.replicate (maxL - (lg_sl av).length) Slot.unset).toArray = ls at hl ⊢
  exact body p e s m _ below meth c ⟨⟨Bd.exec, Bd.bytes, hml, findClass_of_methodNamed Bd.named, atoms_spec (ws := ws) Bd.pre⟩, Bd.returns, Bd.notSynchronized, hK, fun q h => Or.inr (Or.inr h), hSt⟩ ⟨hP, hD, va_S.rf⟩ ls hl
section WR
variable {p : Program} {l : Launch} {e : Env} {R : Room} {s : State} {m : MethodId} {args : Array Value} {below : List Frame} {meth : Method} {c : Code} {H : Heap} {locs : List Loc} {cells slots : Nat} {Q : State → Prop}
variable {D : va_G} {ca : Nat → ClassId} {own : String} {cc : ByteArray} {nL : Nat} {Ts : List Cond} {ret : Option FieldType} {A : Nat → Prop} {B : Nat → Nat} {N n : Nat} {u : ww_U} {X : va_W} {pc : Nat} {ls : Array Slot} {rest : List Value}
theorem rr_get (C : ww_C D ca own cc nL Ts ret A p s m args meth c) (hN : ww_N D ca B N n u X A s.heap H locs) (k : Nat) (hk : k < N) {ci NN : Nat} {fs : List Value} {Cn : String} {T : u_T} {ty0 : Nat → FieldType} (hce : ww_ce ca B n k (u k) = .inr (ci, fs)) (hc : ww_cl[ci]? = some (Cn, T, NN)) (hw : ww_K Ts Cn T NN ty0) (j : Nat) (hj : j < NN) {index : Nat}
    (hlink : Cond.fieldLink own index (T j).1 (T j).2.1 (T j).2.2.1 ∈ Ts) {v : Value} (hv : fs[j]? = some v) (hdg : decode cc pc = .ok (.getfield index, 3))
    (kk : W p l e R s m args below meth c H locs cells slots Q (F0 m (pc + 3) ls (v :: rest))) : W p l e R s m args below meth c H locs cells slots Q (F0 m pc ls (.ref (B k) :: rest)) := by
  obtain ⟨⟨hx, hb, hml, hown, hts⟩, hr, hlk, hK, hA, hSt⟩ := C
  exact va_get hx hb hts hw.1 hown hK hN.1 k ((ww_at hk).trans (by rw [hce])) hc j hj (hts _ hlink) (fun _ h => h) hv hdg kk
theorem rr_put (C : ww_C D ca own cc nL Ts ret A p s m args meth c) (hN : ww_N D ca B N n u X A s.heap H locs) (k : Nat) (hk : k < N) {ci NN : Nat} {fs : List Value} {Cn : String} {T : u_T} {ty0 : Nat → FieldType} (hce : ww_ce ca B n k (u k) = .inr (ci, fs)) (hc : ww_cl[ci]? = some (Cn, T, NN)) (hw : ww_K Ts Cn T NN ty0) (j : Nat) (hj : j < NN) {index : Nat}
    (hlink : Cond.fieldLink own index (T j).1 (T j).2.1 (T j).2.2.1 ∈ Ts) (hfin : (T j).2.2.2 = false) {x : Int32} (hn : narrow (ty0 j) (.int x) = .int x) (hfit : fits (ty0 j) (.int x) = true) (hl : j < fs.length)
    (hset : ww_ce ca B n k (upd (u k) j x) = .inr (ci, fs.set j (.int x))) (hdg : decode cc pc = .ok (.putfield index, 3))
    (kk : ∀ u1 : ww_U, u1 = ww_up u k j x → ∀ (H1 : Heap) (locs1 : List Loc), ww_N D ca B N n u1 X A s.heap H1 locs1 → W p l e R s m args below meth c H1 locs1 cells slots Q (F0 m (pc + 3) ls rest)) : W p l e R s m args below meth c H locs cells slots Q (F0 m pc ls (.int x :: .ref (B k) :: rest)) := by
  obtain ⟨⟨hx, hb, hml, hown, hts⟩, hr, hlk, hK, hA, hSt⟩ := C
  refine va_put hx hb hts hw.1 ty0 hw.2.1 hw.2.2 hown hK hN.1 hN.2.1 hN.2.2 k ((ww_at hk).trans (by rw [hce])) hc j hj (hts _ hlink) (fun _ h => h) hfin (hw.2.1 j hj) hn hfit hl hdg (fun H1 locs1 hP hD hS => ?_)
  rw [ww_set' hk hset] at hP hD
  exact kk _ rfl H1 locs1 ⟨hP, hD, hS⟩
theorem ww_ix {i : Int32} {j len : Nat} (hj : j < len) (hij : i = nI j) (hl : len < 2 ^ 31) : vp_in i len ∧ i.toNatClampNeg = j := by
  subst hij
  exact ⟨vp_in_nI hj hl, nI_clamp (by omega)⟩
theorem rr_iald (C : ww_C D ca own cc nL Ts ret A p s m args meth c) (hN : ww_N D ca B N n u X A s.heap H locs) (k : Nat) (hk : k < N) {len : Nat} (hce : ww_ce ca B n k (u k) = .inl (ca 0, len, .inl (u k))) (hl : len < 2 ^ 31) {i : Int32} (j : Nat) (hj : j < len) (hij : i = nI j) (hdg : decode cc pc = .ok (.iaload, 1))
    (kk : W p l e R s m args below meth c H locs cells slots Q (F0 m (pc + 1) ls (.int (u k j) :: rest))) : W p l e R s m args below meth c H locs cells slots Q (F0 m pc ls (.int i :: .ref (B k) :: rest)) := by
  obtain ⟨⟨hx, hb, hml, hown, hts⟩, hr, hlk, hK, hA, hSt⟩ := C
  obtain ⟨h1, h2⟩ := ww_ix hj hij hl
  refine va_iald hx hb hK hN.1 k 0 ((ww_at hk).trans (by rw [hce])) rfl h1 hdg ?_
  rw [h2]
  exact kk
theorem rr_bald (C : ww_C D ca own cc nL Ts ret A p s m args meth c) (hN : ww_N D ca B N n u X A s.heap H locs) (k : Nat) (hk : k < N) {len : Nat} (hce : ww_ce ca B n k (u k) = .inl (ca 1, len, .inl (u k))) (hl : len < 2 ^ 31) {i : Int32} (j : Nat) (hj : j < len) (hij : i = nI j) (hdg : decode cc pc = .ok (.baload, 1))
    (kk : W p l e R s m args below meth c H locs cells slots Q (F0 m (pc + 1) ls (.int (u k j) :: rest))) : W p l e R s m args below meth c H locs cells slots Q (F0 m pc ls (.int i :: .ref (B k) :: rest)) := by
  obtain ⟨⟨hx, hb, hml, hown, hts⟩, hr, hlk, hK, hA, hSt⟩ := C
  obtain ⟨h1, h2⟩ := ww_ix hj hij hl
  refine va_bald hx hb hK hN.1 k 1 ((ww_at hk).trans (by rw [hce])) rfl h1 hdg ?_
  rw [h2]
  exact kk
theorem rr_zald (C : ww_C D ca own cc nL Ts ret A p s m args meth c) (hN : ww_N D ca B N n u X A s.heap H locs) (k : Nat) (hk : k < N) {len : Nat} (hce : ww_ce ca B n k (u k) = .inl (ca 2, len, .inl (u k))) (hl : len < 2 ^ 31) {i : Int32} (j : Nat) (hj : j < len) (hij : i = nI j) (hdg : decode cc pc = .ok (.baload, 1))
    (kk : W p l e R s m args below meth c H locs cells slots Q (F0 m (pc + 1) ls (.int (u k j) :: rest))) : W p l e R s m args below meth c H locs cells slots Q (F0 m pc ls (.int i :: .ref (B k) :: rest)) := by
  obtain ⟨⟨hx, hb, hml, hown, hts⟩, hr, hlk, hK, hA, hSt⟩ := C
  obtain ⟨h1, h2⟩ := ww_ix hj hij hl
  refine va_zald hx hb hK hN.1 k 2 ((ww_at hk).trans (by rw [hce])) rfl h1 hdg ?_
  rw [h2]
  exact kk
theorem rr_iast (C : ww_C D ca own cc nL Ts ret A p s m args meth c) (hN : ww_N D ca B N n u X A s.heap H locs) (k : Nat) (hk : k < N) {len : Nat} (hce : ∀ f, ww_ce ca B n k f = .inl (ca 0, len, .inl f)) (hl : len < 2 ^ 31) {i x : Int32} (j : Nat) (hj : j < len) (hij : i = nI j) (hdg : decode cc pc = .ok (.iastore, 1))
    (kk : ∀ u1 : ww_U, u1 = ww_up u k j x → ∀ (H1 : Heap) (locs1 : List Loc), ww_N D ca B N n u1 X A s.heap H1 locs1 → W p l e R s m args below meth c H1 locs1 cells slots Q (F0 m (pc + 1) ls rest)) : W p l e R s m args below meth c H locs cells slots Q (F0 m pc ls (.int x :: .int i :: .ref (B k) :: rest)) := by
  obtain ⟨⟨hx, hb, hml, hown, hts⟩, hr, hlk, hK, hA, hSt⟩ := C
  obtain ⟨h1, h2⟩ := ww_ix hj hij hl
  refine va_iast hx hb hK hN.1 hN.2.1 hN.2.2 k 0 ((ww_at hk).trans (by rw [hce])) rfl h1 hdg (fun H1 locs1 hP hD hS => ?_)
  rw [h2, ww_set' hk (hce _)] at hP hD
  exact kk _ rfl H1 locs1 ⟨hP, hD, hS⟩
theorem rr_bast (C : ww_C D ca own cc nL Ts ret A p s m args meth c) (hN : ww_N D ca B N n u X A s.heap H locs) (k : Nat) (hk : k < N) {len : Nat} (hce : ∀ f, ww_ce ca B n k f = .inl (ca 1, len, .inl f)) (hl : len < 2 ^ 31) {i x : Int32} (j : Nat) (hj : j < len) (hij : i = nI j) (hdg : decode cc pc = .ok (.bastore, 1))
    (kk : ∀ u1 : ww_U, u1 = ww_up u k j (vp_nar .byte x) → ∀ (H1 : Heap) (locs1 : List Loc), ww_N D ca B N n u1 X A s.heap H1 locs1 → W p l e R s m args below meth c H1 locs1 cells slots Q (F0 m (pc + 1) ls rest)) : W p l e R s m args below meth c H locs cells slots Q (F0 m pc ls (.int x :: .int i :: .ref (B k) :: rest)) := by
  obtain ⟨⟨hx, hb, hml, hown, hts⟩, hr, hlk, hK, hA, hSt⟩ := C
  obtain ⟨h1, h2⟩ := ww_ix hj hij hl
  refine va_bast hx hb hK hN.1 hN.2.1 hN.2.2 k 1 ((ww_at hk).trans (by rw [hce])) rfl h1 hdg (fun H1 locs1 hP hD hS => ?_)
  rw [h2, ww_set' hk (hce _)] at hP hD
  exact kk _ rfl H1 locs1 ⟨hP, hD, hS⟩
theorem rr_zast (C : ww_C D ca own cc nL Ts ret A p s m args meth c) (hN : ww_N D ca B N n u X A s.heap H locs) (k : Nat) (hk : k < N) {len : Nat} (hce : ∀ f, ww_ce ca B n k f = .inl (ca 2, len, .inl f)) (hl : len < 2 ^ 31) {i x : Int32} (j : Nat) (hj : j < len) (hij : i = nI j) (hdg : decode cc pc = .ok (.bastore, 1))
    (kk : ∀ u1 : ww_U, u1 = ww_up u k j (vp_nar .boolean x) → ∀ (H1 : Heap) (locs1 : List Loc), ww_N D ca B N n u1 X A s.heap H1 locs1 → W p l e R s m args below meth c H1 locs1 cells slots Q (F0 m (pc + 1) ls rest)) : W p l e R s m args below meth c H locs cells slots Q (F0 m pc ls (.int x :: .int i :: .ref (B k) :: rest)) := by
  obtain ⟨⟨hx, hb, hml, hown, hts⟩, hr, hlk, hK, hA, hSt⟩ := C
  obtain ⟨h1, h2⟩ := ww_ix hj hij hl
  refine va_zast hx hb hK hN.1 hN.2.1 hN.2.2 k 2 ((ww_at hk).trans (by rw [hce])) rfl h1 hdg (fun H1 locs1 hP hD hS => ?_)
  rw [h2, ww_set' hk (hce _)] at hP hD
  exact kk _ rfl H1 locs1 ⟨hP, hD, hS⟩
theorem rr_ald (C : ww_C D ca own cc nL Ts ret A p s m args meth c) (hN : ww_N D ca B N n u X A s.heap H locs) (k : Nat) (hk : k < N) (t0 : Nat) {len : Nat} {Cn : String} {f : Nat → Option Nat} (hce : ww_ce ca B n k (u k) = .inl (ca t0, len, .inr (.inr (.inr (.inr f))))) (ht : (ww_ty ca)[t0]? = some (ca t0, .object Cn)) (hl : len < 2 ^ 31) {i : Int32} (j : Nat) (hj : j < len) (hij : i = nI j) {v : Value} (hv : va_rf (f j) = v) (hdg : decode cc pc = .ok (.aaload, 1))
    (kk : W p l e R s m args below meth c H locs cells slots Q (F0 m (pc + 1) ls (v :: rest))) : W p l e R s m args below meth c H locs cells slots Q (F0 m pc ls (.int i :: .ref (B k) :: rest)) := by
  obtain ⟨⟨hx, hb, hml, hown, hts⟩, hr, hlk, hK, hA, hSt⟩ := C
  obtain ⟨h1, h2⟩ := ww_ix hj hij hl
  refine va_aldq hx hb hK hN.1 k t0 ((ww_at hk).trans (by rw [hce])) ht h1 hdg ?_
  rw [h2, hv]
  exact kk
theorem ww_pre (C : ww_C D ca own cc nL Ts ret A p s m args meth c) (hN : ww_N D ca B N n u X A s.heap H locs) {U : State} (hU : U.heap = H) (hW : s.WarmedH U.vm) : U.heap.size = H.size ∧ ww_Wd D ca B N n u X (ww_A B N X H.size) U := by
  obtain ⟨⟨hx, hb, hml, hown, hts⟩, hr, hlk, hK, hA, hSt⟩ := C
  obtain ⟨hP, hD, hS⟩ := hN
  refine ⟨by rw [hU], by rw [hU]; exact hP, va_K.moved hW.alike hK, ww_D_self hD, ?_⟩
  have h1 : ww_St A s H := hSt.kept (fun a h1 h2 => hS.2.1 a h1 h2)
  have h2 : ww_St (ww_A B N X H.size) s H := h1.narrow (fun q h => ww_A_in hD (fun q h => hA q (Nat.le_trans hS.1 h)) h)
  rw [hU]
  exact h2.moved hW.alike
theorem ww_blind {av : List Value} {sz : Nat} : FrameBlind (va_Pc av (fun U => U.heap.size = sz ∧ ww_Wd D ca B N n u X (ww_A B N X sz) U)) := by
  intro a U g mk h
  obtain ⟨h1, h2, h3, h4, h5, h6⟩ := h
  exact ⟨h1, h2, h3, va_K.moved (u := U) (U := U.calling g mk a) (Vm.Alike.refl U.vm) h4, h5, ww_St.moved (u := U) (U := U.calling g mk a) (Vm.Alike.refl U.vm) h6⟩
theorem ww_go {st0 : List Value} {r : Option Value} {u' : ww_U} {a : Array Value} (C : ww_C D ca own cc nL Ts ret A p s m args meth c) (hN : ww_N D ca B N n u X A s.heap H locs)
    (hr : va_Run p l e R s m args below meth c H locs cells slots 0 0 (F0 m pc ls st0) rest (ww_Q D ca B N n X H.size r u' a) (ww_A B N X H.size))
    (kk : ∀ (H1 : Heap) (locs1 : List Loc), ww_N D ca B N n u' X A s.heap H1 locs1 → W p l e R s m args below meth c H1 locs1 cells slots Q (F0 m (pc + 3) ls (r.toList ++ rest))) : W p l e R s m args below meth c H locs cells slots Q (F0 m pc ls st0) := by
  intro T hT Y
  obtain ⟨v, st₀, t, T', L, h0, Y', hL, e1, e2, ⟨⟨hv, hP1, hK1, hD1, hSt1⟩, hz, hk⟩, st⟩ := hr T hT Y
  cases hv
  obtain ⟨-, -, -, -, hA, -⟩ := C
  obtain ⟨hP, hD, hS⟩ := hN
  have hAA : ∀ q, ww_A B N X H.size q → A q := fun q h => ww_A_in hD (fun q h => hA q (Nat.le_trans hS.1 h)) h
  rw [h0] at hz hk
  rw [← e1] at hP1 hz
  obtain ⟨t2, a1, b1⟩ := kk T'.heap (locs ++ L) ⟨hP1, hD1.weaken (fun k q _ h => hAA _ h), Nat.le_trans hS.1 hz, fun q h1 h2 => by rw [e1, hk q (Nat.lt_of_lt_of_le h1 hS.1) (fun z => h2 (hAA q z))]; exact hS.2.1 q h1 h2, fun q hq => by
    rcases List.mem_append.mp hq with h | h
    · exact hS.2.2 q h
    · exact hAA _ (hL q h)⟩ T' rfl Y'
  exact ⟨t2, st t2 a1, b1⟩
theorem rr_callV {y : MethodName} {ws ws' : List Cond} {rm : Room} {As : List Value} {v : Value} {u' : ww_U} {bytes : ByteArray} {maxL index : Nat} {rt : Option FieldType} {Cn : String} {q : vw_C} {ci : Nat} {fs : List Value} (C : ww_C D ca own cc nL Ts ret A p s m args meth c) (hN : ww_N D ca B N n u X A s.heap H locs) (k : Nat) (hk : k < N) (hce : ww_ce ca B n k (u k) = .inr (ci, fs)) (hc : ww_cl[ci]? = some q) (hq : q.1 = Cn)
    (hM : ww_M l y ws rm D ca B N n X u (.ref (B k) :: As) (some v) u') (hg : GoodIn Ts (wsV own index Cn y ws)) (hw : ws = Cond.code y bytes maxL rt :: ws') (hrc : rm.cells = 0) (hrs : rm.slots = 0) (nA : Nat)
    (hd : y.cls = Cn ∧ y.cls ≠ "java/lang/invoke/MethodHandle" ∧ y.cls ≠ "java/lang/invoke/VarHandle" ∧ (parseMethodDescriptor y.desc).map (fun d => d.parameters.length) = some nA) (hR : rm.frames + 1 ≤ R.frames ∧ 8 + (maxL + 11) + rm.locals ≤ R.locals)
    (hn : As.length = nA) (hls : ls.size = nL) {st0 : List Value} (hst : st0 = As.reverse ++ .ref (B k) :: rest) (hroom : (rest.map fun v => v.category).sum ≤ 8) (hf : cells ≤ R.cells ∧ slots ≤ R.slots) (hdg : decode cc pc = .ok (.invokevirtual index, 3))
    (kk : ∀ (H1 : Heap) (locs1 : List Loc), ww_N D ca B N n u' X A s.heap H1 locs1 → W p l e R s m args below meth c H1 locs1 cells slots Q (F0 m (pc + 3) ls (v :: rest))) : W p l e R s m args below meth c H locs cells slots Q (F0 m pc ls st0) := by
  subst hq
  refine ww_go C hN (va_runV (As := As) (rest := rest) (b := B k) C.1 (hM H.size) (cwV nA C.1.2.2.2.2 hg hw hrc hrs hd hR) ⟨ww_blind, va_recv C.2.2.2.1 hN.1 (ci := ci) (q0 := k) (fs := fs) hc ((ww_at hk).trans (by rw [hce])), fun U hU hW => ⟨rfl, ww_pre C hN hU hW⟩⟩ rfl hn hls hst (lv_room hroom) hdg hf) kk
theorem rr_callV0 {y : MethodName} {ws ws' : List Cond} {rm : Room} {As : List Value} {u' : ww_U} {bytes : ByteArray} {maxL index : Nat} {rt : Option FieldType} {Cn : String} {q : vw_C} {ci : Nat} {fs : List Value} (C : ww_C D ca own cc nL Ts ret A p s m args meth c) (hN : ww_N D ca B N n u X A s.heap H locs) (k : Nat) (hk : k < N) (hce : ww_ce ca B n k (u k) = .inr (ci, fs)) (hc : ww_cl[ci]? = some q) (hq : q.1 = Cn)
    (hM : ww_M l y ws rm D ca B N n X u (.ref (B k) :: As) none u') (hg : GoodIn Ts (wsV own index Cn y ws)) (hw : ws = Cond.code y bytes maxL rt :: ws') (hrc : rm.cells = 0) (hrs : rm.slots = 0) (nA : Nat)
    (hd : y.cls = Cn ∧ y.cls ≠ "java/lang/invoke/MethodHandle" ∧ y.cls ≠ "java/lang/invoke/VarHandle" ∧ (parseMethodDescriptor y.desc).map (fun d => d.parameters.length) = some nA) (hR : rm.frames + 1 ≤ R.frames ∧ 8 + (maxL + 11) + rm.locals ≤ R.locals)
    (hn : As.length = nA) (hls : ls.size = nL) {st0 : List Value} (hst : st0 = As.reverse ++ .ref (B k) :: rest) (hroom : (rest.map fun v => v.category).sum ≤ 8) (hf : cells ≤ R.cells ∧ slots ≤ R.slots) (hdg : decode cc pc = .ok (.invokevirtual index, 3))
    (kk : ∀ (H1 : Heap) (locs1 : List Loc), ww_N D ca B N n u' X A s.heap H1 locs1 → W p l e R s m args below meth c H1 locs1 cells slots Q (F0 m (pc + 3) ls rest)) : W p l e R s m args below meth c H locs cells slots Q (F0 m pc ls st0) := by
  subst hq
  refine ww_go C hN (va_runV (As := As) (rest := rest) (b := B k) C.1 (hM H.size) (cwV nA C.1.2.2.2.2 hg hw hrc hrs hd hR) ⟨ww_blind, va_recv C.2.2.2.1 hN.1 (ci := ci) (q0 := k) (fs := fs) hc ((ww_at hk).trans (by rw [hce])), fun U hU hW => ⟨rfl, ww_pre C hN hU hW⟩⟩ rfl hn hls hst (lv_room hroom) hdg hf) kk
theorem rr_callS {y : MethodName} {ws ws' : List Cond} {rm : Room} {As : List Value} {v : Value} {u' : ww_U} {bytes : ByteArray} {maxL index : Nat} {rt : Option FieldType} (C : ww_C D ca own cc nL Ts ret A p s m args meth c) (hN : ww_N D ca B N n u X A s.heap H locs)
    (hM : ww_M l y ws rm D ca B N n X u As (some v) u') (hg : GoodIn Ts (va_wsS own index y ws)) (hw : ws = Cond.code y bytes maxL rt :: ws') (hrc : rm.cells = 0) (hrs : rm.slots = 0) (nA : Nat)
    (hd : y.cls ≠ "java/lang/invoke/MethodHandle" ∧ y.cls ≠ "java/lang/invoke/VarHandle" ∧ (parseMethodDescriptor y.desc).map (fun d => d.parameters.length) = some nA) (hR : rm.frames + 1 ≤ R.frames ∧ 8 + (maxL + 11) + rm.locals ≤ R.locals)
    (hn : As.length = nA) (hls : ls.size = nL) {st0 : List Value} (hst : st0 = As.reverse ++ rest) (hroom : (rest.map fun v => v.category).sum ≤ 8) (hf : cells ≤ R.cells ∧ slots ≤ R.slots) (hdg : decode cc pc = .ok (.invokestatic index, 3))
    (kk : ∀ (H1 : Heap) (locs1 : List Loc), ww_N D ca B N n u' X A s.heap H1 locs1 → W p l e R s m args below meth c H1 locs1 cells slots Q (F0 m (pc + 3) ls (v :: rest))) : W p l e R s m args below meth c H locs cells slots Q (F0 m pc ls st0) := by
  refine ww_go C hN (va_runS (As := As) (rest := rest) C.1 (hM H.size) (va_cwS nA C.1.2.2.2.2 hg hw hrc hrs hd hR) ⟨ww_blind, fun U hU hW => ⟨rfl, ww_pre C hN hU hW⟩⟩ rfl hn hls hst (lv_room hroom) hdg hf) kk
theorem rr_callS0 {y : MethodName} {ws ws' : List Cond} {rm : Room} {As : List Value} {u' : ww_U} {bytes : ByteArray} {maxL index : Nat} {rt : Option FieldType} (C : ww_C D ca own cc nL Ts ret A p s m args meth c) (hN : ww_N D ca B N n u X A s.heap H locs)
    (hM : ww_M l y ws rm D ca B N n X u As none u') (hg : GoodIn Ts (va_wsS own index y ws)) (hw : ws = Cond.code y bytes maxL rt :: ws') (hrc : rm.cells = 0) (hrs : rm.slots = 0) (nA : Nat)
    (hd : y.cls ≠ "java/lang/invoke/MethodHandle" ∧ y.cls ≠ "java/lang/invoke/VarHandle" ∧ (parseMethodDescriptor y.desc).map (fun d => d.parameters.length) = some nA) (hR : rm.frames + 1 ≤ R.frames ∧ 8 + (maxL + 11) + rm.locals ≤ R.locals)
    (hn : As.length = nA) (hls : ls.size = nL) {st0 : List Value} (hst : st0 = As.reverse ++ rest) (hroom : (rest.map fun v => v.category).sum ≤ 8) (hf : cells ≤ R.cells ∧ slots ≤ R.slots) (hdg : decode cc pc = .ok (.invokestatic index, 3))
    (kk : ∀ (H1 : Heap) (locs1 : List Loc), ww_N D ca B N n u' X A s.heap H1 locs1 → W p l e R s m args below meth c H1 locs1 cells slots Q (F0 m (pc + 3) ls rest)) : W p l e R s m args below meth c H locs cells slots Q (F0 m pc ls st0) := by
  refine ww_go C hN (va_runS (As := As) (rest := rest) C.1 (hM H.size) (va_cwS nA C.1.2.2.2.2 hg hw hrc hrs hd hR) ⟨ww_blind, fun U hU hW => ⟨rfl, ww_pre C hN hU hW⟩⟩ rfl hn hls hst (lv_room hroom) hdg hf) kk
theorem ww_end {r : Option Value} {u' : ww_U} {oc : Outcome} (C : ww_C D ca own cc nL Ts ret (ww_A B N X s.heap.size) p s m args meth c) (hN : ww_N D ca B N n u X (ww_A B N X s.heap.size) s.heap H locs) (ho : oc = .returned r) (hu : u' = u) : ∀ t : State, t.heap = H → s.WarmedH t.vm → ww_Q D ca B N n X s.heap.size r u' args s oc t := by
  intro t ht hW
  obtain ⟨⟨hx, hb, hml, hown, hts⟩, hr, hlk, hK, hA, hSt⟩ := C
  obtain ⟨hP, hD, hS⟩ := hN
  subst hu
  refine ⟨⟨ho, by rw [ht]; exact hP, va_K.moved hW.alike hK, hD, ?_⟩, hS.F ht⟩
  rw [ht]
  exact (hSt.kept (fun a h1 h2 => hS.2.1 a h1 h2)).moved hW.alike
theorem rr_iret {r : Option Value} {u' : ww_U} {v : Int32} (C : ww_C D ca own cc nL Ts (some .int) (ww_A B N X s.heap.size) p s m args meth c) (hN : ww_N D ca B N n u X (ww_A B N X s.heap.size) s.heap H locs) (hdg : decode cc pc = .ok (.ireturn, 1)) (hr : r = some (.int v)) (hu : u' = u) :
    W p l e R s m args below meth c H locs 0 0 (MQ below (ww_Q D ca B N n X s.heap.size r u') args s 0 0 (ww_A B N X s.heap.size)) (F0 m pc ls [.int v]) := by
  exact W.iret C.1.1 C.1.2.1 C.2.1 (ww_end C hN (by rw [hr]) hu) hN.2.2.2.2 hdg C.2.2.1
theorem rr_lret {r : Option Value} {u' : ww_U} {v : Int64} (C : ww_C D ca own cc nL Ts (some .long) (ww_A B N X s.heap.size) p s m args meth c) (hN : ww_N D ca B N n u X (ww_A B N X s.heap.size) s.heap H locs) (hdg : decode cc pc = .ok (.lreturn, 1)) (hr : r = some (.long v)) (hu : u' = u) :
    W p l e R s m args below meth c H locs 0 0 (MQ below (ww_Q D ca B N n X s.heap.size r u') args s 0 0 (ww_A B N X s.heap.size)) (F0 m pc ls [.long v]) := by
  exact W.lret C.1.1 C.1.2.1 C.2.1 (ww_end C hN (by rw [hr]) hu) hN.2.2.2.2 hdg C.2.2.1
theorem rr_zret {r : Option Value} {u' : ww_U} {v : Int32} {ty : FieldType} (C : ww_C D ca own cc nL Ts (some ty) (ww_A B N X s.heap.size) p s m args meth c) (hN : ww_N D ca B N n u X (ww_A B N X s.heap.size) s.heap H locs) (hdg : decode cc pc = .ok (.ireturn, 1)) (hn : narrow ty (.int v) = .int v) (hr : r = some (.int v)) (hu : u' = u) :
    W p l e R s m args below meth c H locs 0 0 (MQ below (ww_Q D ca B N n X s.heap.size r u') args s 0 0 (ww_A B N X s.heap.size)) (F0 m pc ls [.int v]) := by
  exact W.zret C.1.1 C.1.2.1 C.2.1 hn (ww_end C hN (by rw [hr]) hu) hN.2.2.2.2 hdg C.2.2.1
theorem rr_vret {u' : ww_U} {r : Option Value} (C : ww_C D ca own cc nL Ts none (ww_A B N X s.heap.size) p s m args meth c) (hN : ww_N D ca B N n u X (ww_A B N X s.heap.size) s.heap H locs) (hdg : decode cc pc = .ok (.return_, 1)) (hr : r = none) (hu : u' = u) :
    W p l e R s m args below meth c H locs 0 0 (MQ below (ww_Q D ca B N n X s.heap.size r u') args s 0 0 (ww_A B N X s.heap.size)) (F0 m pc ls []) := by
  exact W.vret C.1.1 C.1.2.1 C.2.1 (ww_end C hN (by rw [hr]) hu) hN.2.2.2.2 hdg C.2.2.1
theorem rr_aret {u' : ww_U} {r : Option Value} {nm : String} {v : Value} (C : ww_C D ca own cc nL Ts (some (.object nm)) (ww_A B N X s.heap.size) p s m args meth c) (hN : ww_N D ca B N n u X (ww_A B N X s.heap.size) s.heap H locs) (hdg : decode cc pc = .ok (.areturn, 1)) (hv : v = .null ∨ ∃ a, v = .ref a) (hr : r = some v) (hu : u' = u) :
    W p l e R s m args below meth c H locs 0 0 (MQ below (ww_Q D ca B N n X s.heap.size r u') args s 0 0 (ww_A B N X s.heap.size)) (F0 m pc ls [v]) := by
  exact W.aret C.1.1 C.1.2.1 C.2.1 (Or.inl ⟨_, rfl⟩) hv (ww_end C hN (by rw [hr]) hu) hN.2.2.2.2 hdg C.2.2.1
end WR
abbrev kC (i : Nat) : Nat := 36 + 8 * i
abbrev kR (i : Nat) : Nat := 36 + 8 * i + 1
abbrev kB (i b : Nat) : Nat := 36 + 8 * i + 2 + 2 * b
abbrev kO (i b : Nat) : Nat := 36 + 8 * i + 2 + 2 * b + 1
abbrev kP (i : Nat) : Nat := 36 + 8 * i + 6
abbrev kQ (i : Nat) : Nat := 36 + 8 * i + 6 + 1
theorem kC_lt {n N i : Nat} (h : 36 + 8 * n ≤ N) (hi : i < n) : kC i < N := by show 36 + 8 * i < N; omega
theorem kR_lt {n N i : Nat} (h : 36 + 8 * n ≤ N) (hi : i < n) : kR i < N := by show 36 + 8 * i + 1 < N; omega
theorem kB_lt {n N i b : Nat} (h : 36 + 8 * n ≤ N) (hi : i < n) (hb : b < 2) : kB i b < N := by show 36 + 8 * i + 2 + 2 * b < N; omega
theorem kO_lt {n N i b : Nat} (h : 36 + 8 * n ≤ N) (hi : i < n) (hb : b < 2) : kO i b < N := by show 36 + 8 * i + 2 + 2 * b + 1 < N; omega
theorem kP_lt {n N i : Nat} (h : 36 + 8 * n ≤ N) (hi : i < n) : kP i < N := by show 36 + 8 * i + 6 < N; omega
theorem kQ_lt {n N i : Nat} (h : 36 + 8 * n ≤ N) (hi : i < n) : kQ i < N := by show 36 + 8 * i + 6 + 1 < N; omega
theorem hC_ce {ca : Nat → ClassId} {B : Nat → Nat} {n i : Nat} {f : Nat → Int32} : ww_ce ca B n (kC i) f = .inr (1, ww_fc B (kC i) f) := ww_ctl i 0 (by decide) rfl
theorem hR_ce {ca : Nat → ClassId} {B : Nat → Nat} {n i : Nat} {f : Nat → Int32} : ww_ce ca B n (kR i) f = .inl (ca 4, 2, .inr (.inr (.inr (.inr (fun b => some (B (kB i b))))))) := ww_ctl i 1 (by decide) rfl
theorem hB_ce {ca : Nat → ClassId} {B : Nat → Nat} {n i b : Nat} {f : Nat → Int32} (hb : b < 2) : ww_ce ca B n (kB i b) f = .inr (0, ww_fb B (kB i b) f) := by
  rcases (show b = 0 ∨ b = 1 by omega) with rfl | rfl
  · exact ww_ctl i 2 (by decide) rfl
  · exact ww_ctl i 4 (by decide) rfl
theorem hO_ce {ca : Nat → ClassId} {B : Nat → Nat} {n i b : Nat} {f : Nat → Int32} (hb : b < 2) : ww_ce ca B n (kO i b) f = .inl (ca 1, 256, .inl f) := by
  rcases (show b = 0 ∨ b = 1 by omega) with rfl | rfl
  · exact ww_ctl i 3 (by decide) rfl
  · exact ww_ctl i 5 (by decide) rfl
theorem hP_ce {ca : Nat → ClassId} {B : Nat → Nat} {n i : Nat} {f : Nat → Int32} : ww_ce ca B n (kP i) f = .inr (3, ww_fp B (kP i) f) := ww_ctl i 6 (by decide) rfl
theorem hQ_ce {ca : Nat → ClassId} {B : Nat → Nat} {n i : Nat} {f : Nat → Int32} : ww_ce ca B n (kQ i) f = .inl (ca 1, 256, .inl f) := ww_ctl i 7 (by decide) rfl
end
section
def cu_isp (u : ww_U) (x : Int32) : Int32 := if x < 1 then 0 else if u 29 2 < x then 0 else 1
def cu_hold (u : ww_U) : Int32 := if u 29 5 = 0 then 0 else if u 29 6 = 0 then 0 else 1
def cu_away (u : ww_U) (i : Nat) : Int32 := if u (kC i) 5 = 0 then (if u (kC i) 6 = 0 then 0 else 1) else 1
def cu_ols (u : ww_U) (i : Nat) : Int32 := if u (kC i) 9 = 0 then 0 else 1
def cu_isOf (u : ww_U) (i : Nat) (x : Int32) : Int32 := if u (kP i) 4 = 0 then 0 else if u (kP i) 6 = x then 1 else 0
def cu_lose (u : ww_U) (i : Nat) : ww_U := if u (kP i) 4 = 1 then (if u (kP i) 5 ≤ 0 then u else ww_up u (kP i) 5 (u (kP i) 5 - 1)) else u
def cu_b (u : ww_U) (i : Nat) : Nat := (u (kC i) 3).toNatClampNeg
def cu_other (u : ww_U) (i : Nat) : ww_U := ww_up (ww_up u (kC i) 3 (1 - u (kC i) 3)) (kC i) 4 ((ww_up u (kC i) 3 (1 - u (kC i) 3)) (kB i (1 - cu_b u i)) 1)
theorem ww_up_ne {u : ww_U} {k j a : Nat} {x : Int32} (h : a ≠ k) : ww_up u k j x a = u a := by unfold ww_up; rw [if_neg h]
theorem ww_up_at {u : ww_U} {k j b : Nat} {x : Int32} : ww_up u k j x k b = if b = j then x else u k b := by unfold ww_up upd; rw [if_pos rfl]
theorem ww_up_self {u : ww_U} {k j : Nat} {x : Int32} : ww_up u k j x k j = x := by rw [ww_up_at, if_pos rfl]
theorem ww_up_nj {u : ww_U} {k j b : Nat} {x : Int32} (h : b ≠ j) : ww_up u k j x k b = u k b := by rw [ww_up_at, if_neg h]
theorem nI_sub1 {b : Nat} (hb : b < 2) : (1 : Int32) - nI b = nI (1 - b) := by
  rcases (show b = 0 ∨ b = 1 by omega) with rfl | rfl <;> rfl
theorem cu_lose_ne {u : ww_U} {i k : Nat} (h : k ≠ kP i) : cu_lose u i k = u k := by
  unfold cu_lose
  (repeat' split) <;> first | rfl | exact ww_up_ne h
set_option maxRecDepth 20000 in
theorem kw_X4_isPackage_X4 : ww_K wsX4_isPackage RX4 TX4 8 tyX4 := ⟨by decide +kernel, tyX4_ok, nmX4⟩
set_option maxHeartbeats 4000000 in
set_option maxRecDepth 100000 in
theorem ct_X4_isPackage (l : Launch) {D : va_G} {ca : Nat → ClassId} {B : Nat → Nat} {N n : Nat} {X : va_W} {u : ww_U} (x : Int32) (hNn : 36 + 8 * n ≤ N)  : ww_M l yX4_isPackage wsX4_isPackage ({ frames := 0, cells := 0, slots := 0, locals := 0 } : Room) D ca B N n X u [.ref (B 29), .int x] (some (.int (cu_isp u x))) u := by
  refine ww_met (cc := cX4_isPackage) (maxL := 2) (ret := (some .boolean)) (by decide) rfl (Nat.le_of_ble_eq_true rfl) ?_
  intro p e s m args below meth c C hN ls hl
  have hl : lv_has ls 2 [(0, .ref (B 29)), (1, .int x)] := hl
  have hx := C.1.1
  have hb := C.1.2.1
  have hNB : 36 ≤ N := by omega
  have hNN : 29 ≤ N := by omega
  refine lv_iload_n hx hb dX4_isPackage_0 rfl (lv_at hl 1 rfl) ?_
  refine lv_iconst (v := 1) hx hb dX4_isPackage_1 (by decide) ?_
  refine lv_icmp_lt (tgt := 17) hx hb dX4_isPackage_2 (by decide) (fun c_2 => ?_) (fun c_2 => ?_)
  · refine lv_iconst (v := 0) hx hb dX4_isPackage_17 (by decide) ?_
    exact rr_zret C hN dX4_isPackage_18 (by first | rfl | decide) (by first | rfl | (simp only [cu_isp]; first | done | ((repeat' split) <;> first | rfl | contradiction | (subst_vars; first | rfl | contradiction) | simp_all))) rfl
  · refine lv_iload_n hx hb dX4_isPackage_5 rfl (lv_at hl 1 rfl) ?_
    refine lv_aload_n hx hb dX4_isPackage_6 rfl (lv_at hl 0 rfl) ?_
    refine rr_get C hN 29 (Nat.lt_of_lt_of_le (by decide) hNB) rfl rfl kw_X4_isPackage_X4 2 (by decide) (List.mem_of_getElem? (i := 1) rfl) (v := .int (u 29 2)) rfl dX4_isPackage_7 ?_
    refine lv_icmp_gt (tgt := 17) hx hb dX4_isPackage_10 (by decide) (fun c_10 => ?_) (fun c_10 => ?_)
    · refine lv_iconst (v := 0) hx hb dX4_isPackage_17 (by decide) ?_
      exact rr_zret C hN dX4_isPackage_18 (by first | rfl | decide) (by first | rfl | (simp only [cu_isp]; first | done | ((repeat' split) <;> first | rfl | contradiction | (subst_vars; first | rfl | contradiction) | simp_all))) rfl
    · refine lv_iconst (v := 1) hx hb dX4_isPackage_13 (by decide) ?_
      refine lv_goto (tgt := 18) hx hb dX4_isPackage_14 (by decide) ?_
      exact rr_zret C hN dX4_isPackage_18 (by first | rfl | decide) (by first | rfl | (simp only [cu_isp]; first | done | ((repeat' split) <;> first | rfl | contradiction | (subst_vars; first | rfl | contradiction) | simp_all))) rfl
set_option maxRecDepth 20000 in
theorem kw_X4_bothHold_X4 : ww_K wsX4_bothHold RX4 TX4 8 tyX4 := ⟨by decide +kernel, tyX4_ok, nmX4⟩
set_option maxHeartbeats 4000000 in
set_option maxRecDepth 100000 in
theorem ct_X4_bothHold (l : Launch) {D : va_G} {ca : Nat → ClassId} {B : Nat → Nat} {N n : Nat} {X : va_W} {u : ww_U}  (hNn : 36 + 8 * n ≤ N)  : ww_M l yX4_bothHold wsX4_bothHold ({ frames := 0, cells := 0, slots := 0, locals := 0 } : Room) D ca B N n X u [.ref (B 29)] (some (.int (cu_hold u))) u := by
  refine ww_met (cc := cX4_bothHold) (maxL := 1) (ret := (some .boolean)) (by decide) rfl (Nat.le_of_ble_eq_true rfl) ?_
  intro p e s m args below meth c C hN ls hl
  have hl : lv_has ls 1 [(0, .ref (B 29))] := hl
  have hx := C.1.1
  have hb := C.1.2.1
  have hNB : 36 ≤ N := by omega
  have hNN : 29 ≤ N := by omega
  refine lv_aload_n hx hb dX4_bothHold_0 rfl (lv_at hl 0 rfl) ?_
  refine rr_get C hN 29 (Nat.lt_of_lt_of_le (by decide) hNB) rfl rfl kw_X4_bothHold_X4 5 (by decide) (List.mem_of_getElem? (i := 1) rfl) (v := .int (u 29 5)) rfl dX4_bothHold_1 ?_
  refine lv_if_eq (tgt := 18) hx hb dX4_bothHold_4 (by decide) (fun c_4 => ?_) (fun c_4 => ?_)
  · refine lv_iconst (v := 0) hx hb dX4_bothHold_18 (by decide) ?_
    exact rr_zret C hN dX4_bothHold_19 (by first | rfl | decide) (by first | rfl | (simp only [cu_hold]; first | done | ((repeat' split) <;> first | rfl | contradiction | (subst_vars; first | rfl | contradiction) | simp_all))) rfl
  · refine lv_aload_n hx hb dX4_bothHold_7 rfl (lv_at hl 0 rfl) ?_
    refine rr_get C hN 29 (Nat.lt_of_lt_of_le (by decide) hNB) rfl rfl kw_X4_bothHold_X4 6 (by decide) (List.mem_of_getElem? (i := 2) rfl) (v := .int (u 29 6)) rfl dX4_bothHold_8 ?_
    refine lv_if_eq (tgt := 18) hx hb dX4_bothHold_11 (by decide) (fun c_11 => ?_) (fun c_11 => ?_)
    · refine lv_iconst (v := 0) hx hb dX4_bothHold_18 (by decide) ?_
      exact rr_zret C hN dX4_bothHold_19 (by first | rfl | decide) (by first | rfl | (simp only [cu_hold]; first | done | ((repeat' split) <;> first | rfl | contradiction | (subst_vars; first | rfl | contradiction) | simp_all))) rfl
    · refine lv_iconst (v := 1) hx hb dX4_bothHold_14 (by decide) ?_
      refine lv_goto (tgt := 19) hx hb dX4_bothHold_15 (by decide) ?_
      exact rr_zret C hN dX4_bothHold_19 (by first | rfl | decide) (by first | rfl | (simp only [cu_hold]; first | done | ((repeat' split) <;> first | rfl | contradiction | (subst_vars; first | rfl | contradiction) | simp_all))) rfl
set_option maxRecDepth 20000 in
theorem kw_X1_isAway_X1 : ww_K wsX1_isAway RX1 TX1 10 tyX1 := ⟨by decide +kernel, tyX1_ok, nmX1⟩
set_option maxHeartbeats 4000000 in
set_option maxRecDepth 100000 in
theorem ct_X1_isAway (l : Launch) {D : va_G} {ca : Nat → ClassId} {B : Nat → Nat} {N n : Nat} {X : va_W} {u : ww_U} {i : Nat} (hi : i < n) (hNn : 36 + 8 * n ≤ N)  : ww_M l yX1_isAway wsX1_isAway ({ frames := 0, cells := 0, slots := 0, locals := 0 } : Room) D ca B N n X u [.ref (B (kC i))] (some (.int (cu_away u i))) u := by
  refine ww_met (cc := cX1_isAway) (maxL := 1) (ret := (some .boolean)) (by decide) rfl (Nat.le_of_ble_eq_true rfl) ?_
  intro p e s m args below meth c C hN ls hl
  have hl : lv_has ls 1 [(0, .ref (B (kC i)))] := hl
  have hx := C.1.1
  have hb := C.1.2.1
  have hNB : 36 ≤ N := by omega
  have hNN : 29 ≤ N := by omega
  refine lv_aload_n hx hb dX1_isAway_0 rfl (lv_at hl 0 rfl) ?_
  refine rr_get C hN (kC i) (kC_lt hNn hi) hC_ce rfl kw_X1_isAway_X1 5 (by decide) (List.mem_of_getElem? (i := 1) rfl) (v := .int (u (kC i) 5)) rfl dX1_isAway_1 ?_
  refine lv_if_ne (tgt := 14) hx hb dX1_isAway_4 (by decide) (fun c_4 => ?_) (fun c_4 => ?_)
  · refine lv_iconst (v := 1) hx hb dX1_isAway_14 (by decide) ?_
    refine lv_goto (tgt := 19) hx hb dX1_isAway_15 (by decide) ?_
    exact rr_zret C hN dX1_isAway_19 (by first | rfl | decide) (by first | rfl | (simp only [cu_away]; first | done | ((repeat' split) <;> first | rfl | contradiction | (subst_vars; first | rfl | contradiction) | simp_all))) rfl
  · refine lv_aload_n hx hb dX1_isAway_7 rfl (lv_at hl 0 rfl) ?_
    refine rr_get C hN (kC i) (kC_lt hNn hi) hC_ce rfl kw_X1_isAway_X1 6 (by decide) (List.mem_of_getElem? (i := 2) rfl) (v := .int (u (kC i) 6)) rfl dX1_isAway_8 ?_
    refine lv_if_eq (tgt := 18) hx hb dX1_isAway_11 (by decide) (fun c_11 => ?_) (fun c_11 => ?_)
    · refine lv_iconst (v := 0) hx hb dX1_isAway_18 (by decide) ?_
      exact rr_zret C hN dX1_isAway_19 (by first | rfl | decide) (by first | rfl | (simp only [cu_away]; first | done | ((repeat' split) <;> first | rfl | contradiction | (subst_vars; first | rfl | contradiction) | simp_all))) rfl
    · refine lv_iconst (v := 1) hx hb dX1_isAway_14 (by decide) ?_
      refine lv_goto (tgt := 19) hx hb dX1_isAway_15 (by decide) ?_
      exact rr_zret C hN dX1_isAway_19 (by first | rfl | decide) (by first | rfl | (simp only [cu_away]; first | done | ((repeat' split) <;> first | rfl | contradiction | (subst_vars; first | rfl | contradiction) | simp_all))) rfl
set_option maxRecDepth 20000 in
theorem kw_X1_isOfLastSet_X1 : ww_K wsX1_isOfLastSet RX1 TX1 10 tyX1 := ⟨by decide +kernel, tyX1_ok, nmX1⟩
set_option maxHeartbeats 4000000 in
set_option maxRecDepth 100000 in
theorem ct_X1_isOfLastSet (l : Launch) {D : va_G} {ca : Nat → ClassId} {B : Nat → Nat} {N n : Nat} {X : va_W} {u : ww_U} {i : Nat} (hi : i < n) (hNn : 36 + 8 * n ≤ N)  : ww_M l yX1_isOfLastSet wsX1_isOfLastSet ({ frames := 0, cells := 0, slots := 0, locals := 0 } : Room) D ca B N n X u [.ref (B (kC i))] (some (.int (cu_ols u i))) u := by
  refine ww_met (cc := cX1_isOfLastSet) (maxL := 1) (ret := (some .boolean)) (by decide) rfl (Nat.le_of_ble_eq_true rfl) ?_
  intro p e s m args below meth c C hN ls hl
  have hl : lv_has ls 1 [(0, .ref (B (kC i)))] := hl
  have hx := C.1.1
  have hb := C.1.2.1
  have hNB : 36 ≤ N := by omega
  have hNN : 29 ≤ N := by omega
  refine lv_aload_n hx hb dX1_isOfLastSet_0 rfl (lv_at hl 0 rfl) ?_
  refine rr_get C hN (kC i) (kC_lt hNn hi) hC_ce rfl kw_X1_isOfLastSet_X1 9 (by decide) (List.mem_of_getElem? (i := 1) rfl) (v := .int (u (kC i) 9)) rfl dX1_isOfLastSet_1 ?_
  refine lv_if_eq (tgt := 11) hx hb dX1_isOfLastSet_4 (by decide) (fun c_4 => ?_) (fun c_4 => ?_)
  · refine lv_iconst (v := 0) hx hb dX1_isOfLastSet_11 (by decide) ?_
    exact rr_zret C hN dX1_isOfLastSet_12 (by first | rfl | decide) (by first | rfl | (simp only [cu_ols]; first | done | ((repeat' split) <;> first | rfl | contradiction | (subst_vars; first | rfl | contradiction) | simp_all))) rfl
  · refine lv_iconst (v := 1) hx hb dX1_isOfLastSet_7 (by decide) ?_
    refine lv_goto (tgt := 12) hx hb dX1_isOfLastSet_8 (by decide) ?_
    exact rr_zret C hN dX1_isOfLastSet_12 (by first | rfl | decide) (by first | rfl | (simp only [cu_ols]; first | done | ((repeat' split) <;> first | rfl | contradiction | (subst_vars; first | rfl | contradiction) | simp_all))) rfl
set_option maxRecDepth 20000 in
theorem kw_X3_isOf_X3 : ww_K wsX3_isOf RX3 TX3 8 tyX3 := ⟨by decide +kernel, tyX3_ok, nmX3⟩
set_option maxHeartbeats 4000000 in
set_option maxRecDepth 100000 in
theorem ct_X3_isOf (l : Launch) {D : va_G} {ca : Nat → ClassId} {B : Nat → Nat} {N n : Nat} {X : va_W} {u : ww_U} {i : Nat} (hi : i < n) (x : Int32) (hNn : 36 + 8 * n ≤ N)  : ww_M l yX3_isOf wsX3_isOf ({ frames := 0, cells := 0, slots := 0, locals := 0 } : Room) D ca B N n X u [.ref (B (kP i)), .int x] (some (.int (cu_isOf u i x))) u := by
  refine ww_met (cc := cX3_isOf) (maxL := 2) (ret := (some .boolean)) (by decide) rfl (Nat.le_of_ble_eq_true rfl) ?_
  intro p e s m args below meth c C hN ls hl
  have hl : lv_has ls 2 [(0, .ref (B (kP i))), (1, .int x)] := hl
  have hx := C.1.1
  have hb := C.1.2.1
  have hNB : 36 ≤ N := by omega
  have hNN : 29 ≤ N := by omega
  refine lv_aload_n hx hb dX3_isOf_0 rfl (lv_at hl 0 rfl) ?_
  refine rr_get C hN (kP i) (kP_lt hNn hi) hP_ce rfl kw_X3_isOf_X3 4 (by decide) (List.mem_of_getElem? (i := 1) rfl) (v := .int (u (kP i) 4)) rfl dX3_isOf_1 ?_
  refine lv_if_eq (tgt := 19) hx hb dX3_isOf_4 (by decide) (fun c_4 => ?_) (fun c_4 => ?_)
  · refine lv_iconst (v := 0) hx hb dX3_isOf_19 (by decide) ?_
    exact rr_zret C hN dX3_isOf_20 (by first | rfl | decide) (by first | rfl | (simp only [cu_isOf]; first | done | ((repeat' split) <;> first | rfl | contradiction | (subst_vars; first | rfl | contradiction) | simp_all))) rfl
  · refine lv_aload_n hx hb dX3_isOf_7 rfl (lv_at hl 0 rfl) ?_
    refine rr_get C hN (kP i) (kP_lt hNn hi) hP_ce rfl kw_X3_isOf_X3 6 (by decide) (List.mem_of_getElem? (i := 2) rfl) (v := .int (u (kP i) 6)) rfl dX3_isOf_8 ?_
    refine lv_iload_n hx hb dX3_isOf_11 rfl (lv_at hl 1 rfl) ?_
    refine lv_icmp_ne (tgt := 19) hx hb dX3_isOf_12 (by decide) (fun c_12 => ?_) (fun c_12 => ?_)
    · refine lv_iconst (v := 0) hx hb dX3_isOf_19 (by decide) ?_
      exact rr_zret C hN dX3_isOf_20 (by first | rfl | decide) (by first | rfl | (simp only [cu_isOf]; first | done | ((repeat' split) <;> first | rfl | contradiction | (subst_vars; first | rfl | contradiction) | simp_all))) rfl
    · refine lv_iconst (v := 1) hx hb dX3_isOf_15 (by decide) ?_
      refine lv_goto (tgt := 20) hx hb dX3_isOf_16 (by decide) ?_
      exact rr_zret C hN dX3_isOf_20 (by first | rfl | decide) (by first | rfl | (simp only [cu_isOf]; first | done | ((repeat' split) <;> first | rfl | contradiction | (subst_vars; first | rfl | contradiction) | simp_all))) rfl
set_option maxRecDepth 20000 in
theorem kw_X3_loseBlock_X3 : ww_K wsX3_loseBlock RX3 TX3 8 tyX3 := ⟨by decide +kernel, tyX3_ok, nmX3⟩
set_option maxHeartbeats 4000000 in
set_option maxRecDepth 100000 in
theorem ct_X3_loseBlock (l : Launch) {D : va_G} {ca : Nat → ClassId} {B : Nat → Nat} {N n : Nat} {X : va_W} {u : ww_U} {i : Nat} (hi : i < n) (hNn : 36 + 8 * n ≤ N)  : ww_M l yX3_loseBlock wsX3_loseBlock ({ frames := 0, cells := 0, slots := 0, locals := 0 } : Room) D ca B N n X u [.ref (B (kP i))] none (cu_lose u i) := by
  refine ww_met (cc := cX3_loseBlock) (maxL := 1) (ret := none) (by decide) rfl (Nat.le_of_ble_eq_true rfl) ?_
  intro p e s m args below meth c C hN ls hl
  have hl : lv_has ls 1 [(0, .ref (B (kP i)))] := hl
  have hx := C.1.1
  have hb := C.1.2.1
  have hNB : 36 ≤ N := by omega
  have hNN : 29 ≤ N := by omega
  refine lv_aload_n hx hb dX3_loseBlock_0 rfl (lv_at hl 0 rfl) ?_
  refine rr_get C hN (kP i) (kP_lt hNn hi) hP_ce rfl kw_X3_loseBlock_X3 4 (by decide) (List.mem_of_getElem? (i := 1) rfl) (v := .int (u (kP i) 4)) rfl dX3_loseBlock_1 ?_
  refine lv_iconst (v := 1) hx hb dX3_loseBlock_4 (by decide) ?_
  refine lv_icmp_ne (tgt := 25) hx hb dX3_loseBlock_5 (by decide) (fun c_5 => ?_) (fun c_5 => ?_)
  · exact rr_vret C hN dX3_loseBlock_25 rfl (by subst_vars; first | rfl | (simp only [cu_lose]; done) | (simp only [cu_lose]; (repeat' split) <;> first | rfl | contradiction | simp_all))
  · refine lv_aload_n hx hb dX3_loseBlock_8 rfl (lv_at hl 0 rfl) ?_
    refine rr_get C hN (kP i) (kP_lt hNn hi) hP_ce rfl kw_X3_loseBlock_X3 5 (by decide) (List.mem_of_getElem? (i := 2) rfl) (v := .int (u (kP i) 5)) rfl dX3_loseBlock_9 ?_
    refine lv_if_le (tgt := 25) hx hb dX3_loseBlock_12 (by decide) (fun c_12 => ?_) (fun c_12 => ?_)
    · exact rr_vret C hN dX3_loseBlock_25 rfl (by subst_vars; first | rfl | (simp only [cu_lose]; done) | (simp only [cu_lose]; (repeat' split) <;> first | rfl | contradiction | simp_all))
    · refine lv_aload_n hx hb dX3_loseBlock_15 rfl (lv_at hl 0 rfl) ?_
      refine lv_dup hx hb dX3_loseBlock_16 rfl ?_
      refine rr_get C hN (kP i) (kP_lt hNn hi) hP_ce rfl kw_X3_loseBlock_X3 5 (by decide) (List.mem_of_getElem? (i := 2) rfl) (v := .int (u (kP i) 5)) rfl dX3_loseBlock_17 ?_
      refine lv_iconst (v := 1) hx hb dX3_loseBlock_20 (by decide) ?_
      refine lv_isub hx hb dX3_loseBlock_21 ?_
      refine lv_topi (fun v1 ev1 => ?_)
      refine rr_put C hN (kP i) (kP_lt hNn hi) hP_ce rfl kw_X3_loseBlock_X3 5 (by decide) (List.mem_of_getElem? (i := 2) rfl) rfl (x := v1) rfl rfl (Nat.le_of_ble_eq_true rfl) (hP_ce.trans rfl) dX3_loseBlock_22 (fun u2 eu2 H locs hN => ?_)
      exact rr_vret C hN dX3_loseBlock_25 rfl (by subst_vars; first | rfl | (simp only [cu_lose]; done) | (simp only [cu_lose]; (repeat' split) <;> first | rfl | contradiction | simp_all))
set_option maxRecDepth 20000 in
theorem kw_X4_find_X4 : ww_K wsX4_find RX4 TX4 8 tyX4 := ⟨by decide +kernel, tyX4_ok, nmX4⟩
set_option maxHeartbeats 4000000 in
set_option maxRecDepth 100000 in
theorem ct_X4_find (l : Launch) {D : va_G} {ca : Nat → ClassId} {B : Nat → Nat} {N n : Nat} {X : va_W} {u : ww_U} {x : Int32} (j : Nat) (hj : j < 8) (hj2 : j < n) (hxj : x = nI (j + 1)) (hNn : 36 + 8 * n ≤ N) (hx1 : ¬ x < 1) (hx2 : x ≤ u 29 1) : ww_M l yX4_find wsX4_find ({ frames := 0, cells := 0, slots := 0, locals := 0 } : Room) D ca B N n X u [.ref (B 29), .int x] (some (.ref (B (kC j)))) u := by
  refine ww_met (cc := cX4_find) (maxL := 2) (ret := (some (.object "UpdatePacks$Controller"))) (by decide) rfl (Nat.le_of_ble_eq_true rfl) ?_
  intro p e s m args below meth c C hN ls hl
  have hl : lv_has ls 2 [(0, .ref (B 29)), (1, .int x)] := hl
  have hx := C.1.1
  have hb := C.1.2.1
  have hNB : 36 ≤ N := by omega
  have hNN : 29 ≤ N := by omega
  refine lv_iload_n hx hb dX4_find_0 rfl (lv_at hl 1 rfl) ?_
  refine lv_iconst (v := 1) hx hb dX4_find_1 (by decide) ?_
  refine lv_icmp_lt (tgt := 13) hx hb dX4_find_2 (by decide) (fun c_2 => absurd c_2 hx1) (fun c_2 => ?_)
  refine lv_iload_n hx hb dX4_find_5 rfl (lv_at hl 1 rfl) ?_
  refine lv_aload_n hx hb dX4_find_6 rfl (lv_at hl 0 rfl) ?_
  refine rr_get C hN 29 (Nat.lt_of_lt_of_le (by decide) hNB) rfl rfl kw_X4_find_X4 1 (by decide) (List.mem_of_getElem? (i := 1) rfl) (v := .int (u 29 1)) rfl dX4_find_7 ?_
  refine lv_icmp_le (tgt := 15) hx hb dX4_find_10 (by decide) (fun c_10 => ?_) (fun c_10 => absurd c_10 (fun h => h hx2))
  refine lv_aload_n hx hb dX4_find_15 rfl (lv_at hl 0 rfl) ?_
  refine rr_get C hN 29 (Nat.lt_of_lt_of_le (by decide) hNB) rfl rfl kw_X4_find_X4 0 (by decide) (List.mem_of_getElem? (i := 2) rfl) (v := .ref (B 30)) rfl dX4_find_16 ?_
  refine lv_iload_n hx hb dX4_find_19 rfl (lv_at hl 1 rfl) ?_
  refine lv_iconst (v := 1) hx hb dX4_find_20 (by decide) ?_
  refine lv_isub hx hb dX4_find_21 ?_
  refine lv_topi (fun v1 ev1 => ?_)
  refine rr_ald C hN 30 (Nat.lt_of_lt_of_le (by decide) hNB) 3 rfl rfl (by decide) j hj (by rw [ev1, hxj]; exact nI_pred j) (v := .ref (B (kC j))) (by simp only [if_pos hj2]; rfl) dX4_find_22 ?_
  exact rr_aret C hN dX4_find_23 (Or.inr ⟨_, rfl⟩) rfl rfl
set_option maxHeartbeats 4000000 in
set_option maxRecDepth 100000 in
theorem ct_X4_find0 (l : Launch) {D : va_G} {ca : Nat → ClassId} {B : Nat → Nat} {N n : Nat} {X : va_W} {u : ww_U} {x : Int32} (h : x < 1 ∨ u 29 1 < x) (hNn : 36 + 8 * n ≤ N)  : ww_M l yX4_find wsX4_find ({ frames := 0, cells := 0, slots := 0, locals := 0 } : Room) D ca B N n X u [.ref (B 29), .int x] (some .null) u := by
  refine ww_met (cc := cX4_find) (maxL := 2) (ret := (some (.object "UpdatePacks$Controller"))) (by decide) rfl (Nat.le_of_ble_eq_true rfl) ?_
  intro p e s m args below meth c C hN ls hl
  have hl : lv_has ls 2 [(0, .ref (B 29)), (1, .int x)] := hl
  have hx := C.1.1
  have hb := C.1.2.1
  have hNB : 36 ≤ N := by omega
  have hNN : 29 ≤ N := by omega
  refine lv_iload_n hx hb dX4_find_0 rfl (lv_at hl 1 rfl) ?_
  refine lv_iconst (v := 1) hx hb dX4_find_1 (by decide) ?_
  refine lv_icmp_lt (tgt := 13) hx hb dX4_find_2 (by decide) (fun c_2 => ?_) (fun c_2 => ?_)
  · refine lv_null hx hb dX4_find_13 ?_
    exact rr_aret C hN dX4_find_14 (Or.inl rfl) rfl rfl
  · refine lv_iload_n hx hb dX4_find_5 rfl (lv_at hl 1 rfl) ?_
    refine lv_aload_n hx hb dX4_find_6 rfl (lv_at hl 0 rfl) ?_
    refine rr_get C hN 29 (Nat.lt_of_lt_of_le (by decide) hNB) rfl rfl kw_X4_find_X4 1 (by decide) (List.mem_of_getElem? (i := 1) rfl) (v := .int (u 29 1)) rfl dX4_find_7 ?_
    refine lv_icmp_le (tgt := 15) hx hb dX4_find_10 (by decide) (fun c_10 => absurd c_10 (by rcases h with h | h; exact absurd h c_2; exact Int32.not_le.mpr h)) (fun c_10 => ?_)
    refine lv_null hx hb dX4_find_13 ?_
    exact rr_aret C hN dX4_find_14 (Or.inl rfl) rfl rfl
set_option maxRecDepth 20000 in
theorem kw_X1_runningBank_X1 : ww_K wsX1_runningBank RX1 TX1 10 tyX1 := ⟨by decide +kernel, tyX1_ok, nmX1⟩
set_option maxHeartbeats 4000000 in
set_option maxRecDepth 100000 in
theorem ct_X1_runningBank (l : Launch) {D : va_G} {ca : Nat → ClassId} {B : Nat → Nat} {N n : Nat} {X : va_W} {u : ww_U} {i : Nat} (hi : i < n) {b : Nat} (hb2 : b < 2) (hbe : u (kC i) 3 = nI b) (hNn : 36 + 8 * n ≤ N)  : ww_M l yX1_runningBank wsX1_runningBank ({ frames := 0, cells := 0, slots := 0, locals := 0 } : Room) D ca B N n X u [.ref (B (kC i))] (some (.ref (B (kB i b)))) u := by
  refine ww_met (cc := cX1_runningBank) (maxL := 1) (ret := (some (.object "UpdatePacks$Bank"))) (by decide) rfl (Nat.le_of_ble_eq_true rfl) ?_
  intro p e s m args below meth c C hN ls hl
  have hl : lv_has ls 1 [(0, .ref (B (kC i)))] := hl
  have hx := C.1.1
  have hb := C.1.2.1
  have hNB : 36 ≤ N := by omega
  have hNN : 29 ≤ N := by omega
  refine lv_aload_n hx hb dX1_runningBank_0 rfl (lv_at hl 0 rfl) ?_
  refine rr_get C hN (kC i) (kC_lt hNn hi) hC_ce rfl kw_X1_runningBank_X1 1 (by decide) (List.mem_of_getElem? (i := 1) rfl) (v := .ref (B (kR i))) rfl dX1_runningBank_1 ?_
  refine lv_aload_n hx hb dX1_runningBank_4 rfl (lv_at hl 0 rfl) ?_
  refine rr_get C hN (kC i) (kC_lt hNn hi) hC_ce rfl kw_X1_runningBank_X1 3 (by decide) (List.mem_of_getElem? (i := 2) rfl) (v := .int (u (kC i) 3)) rfl dX1_runningBank_5 ?_
  refine rr_ald C hN (kR i) (kR_lt hNn hi) 4 hR_ce rfl (by decide) b hb2 hbe (v := .ref (B (kB i b))) rfl dX1_runningBank_8 ?_
  exact rr_aret C hN dX1_runningBank_9 (Or.inr ⟨_, rfl⟩) rfl rfl
set_option maxRecDepth 20000 in
theorem kw_X1_runOtherBank_X0 : ww_K wsX1_runOtherBank RX0 TX0 3 tyX0 := ⟨by decide +kernel, tyX0_ok, nmX0⟩
set_option maxRecDepth 20000 in
theorem kw_X1_runOtherBank_X1 : ww_K wsX1_runOtherBank RX1 TX1 10 tyX1 := ⟨by decide +kernel, tyX1_ok, nmX1⟩
set_option maxHeartbeats 4000000 in
set_option maxRecDepth 100000 in
theorem ct_X1_runOtherBank (l : Launch) {D : va_G} {ca : Nat → ClassId} {B : Nat → Nat} {N n : Nat} {X : va_W} {u : ww_U} {i : Nat} (hi : i < n) {b : Nat} (hb2 : b < 2) (hbe : u (kC i) 3 = nI b) (hNn : 36 + 8 * n ≤ N)  : ww_M l yX1_runOtherBank wsX1_runOtherBank ({ frames := 0, cells := 0, slots := 0, locals := 0 } : Room) D ca B N n X u [.ref (B (kC i))] none (cu_other u i) := by
  refine ww_met (cc := cX1_runOtherBank) (maxL := 1) (ret := none) (by decide) rfl (Nat.le_of_ble_eq_true rfl) ?_
  intro p e s m args below meth c C hN ls hl
  have hl : lv_has ls 1 [(0, .ref (B (kC i)))] := hl
  have hx := C.1.1
  have hb := C.1.2.1
  have hNB : 36 ≤ N := by omega
  have hNN : 29 ≤ N := by omega
  have hb3 : 1 - b < 2 := by omega
  have hcb : cu_b u i = b := by unfold cu_b; rw [hbe]; exact nI_clamp (by omega)
  refine lv_aload_n hx hb dX1_runOtherBank_0 rfl (lv_at hl 0 rfl) ?_
  refine lv_iconst (v := 1) hx hb dX1_runOtherBank_1 (by decide) ?_
  refine lv_aload_n hx hb dX1_runOtherBank_2 rfl (lv_at hl 0 rfl) ?_
  refine rr_get C hN (kC i) (kC_lt hNn hi) hC_ce rfl kw_X1_runOtherBank_X1 3 (by decide) (List.mem_of_getElem? (i := 1) rfl) (v := .int (u (kC i) 3)) rfl dX1_runOtherBank_3 ?_
  refine lv_isub hx hb dX1_runOtherBank_6 ?_
  refine lv_topi (fun v1 ev1 => ?_)
  refine rr_put C hN (kC i) (kC_lt hNn hi) hC_ce rfl kw_X1_runOtherBank_X1 3 (by decide) (List.mem_of_getElem? (i := 1) rfl) rfl (x := v1) rfl rfl (Nat.le_of_ble_eq_true rfl) (hC_ce.trans rfl) dX1_runOtherBank_7 (fun u2 eu2 H locs hN => ?_)
  refine lv_aload_n hx hb dX1_runOtherBank_10 rfl (lv_at hl 0 rfl) ?_
  refine lv_aload_n hx hb dX1_runOtherBank_11 rfl (lv_at hl 0 rfl) ?_
  refine rr_get C hN (kC i) (kC_lt hNn hi) hC_ce rfl kw_X1_runOtherBank_X1 1 (by decide) (List.mem_of_getElem? (i := 2) rfl) (v := .ref (B (kR i))) rfl dX1_runOtherBank_12 ?_
  refine lv_aload_n hx hb dX1_runOtherBank_15 rfl (lv_at hl 0 rfl) ?_
  refine rr_get C hN (kC i) (kC_lt hNn hi) hC_ce rfl kw_X1_runOtherBank_X1 3 (by decide) (List.mem_of_getElem? (i := 1) rfl) (v := .int (u2 (kC i) 3)) rfl dX1_runOtherBank_16 ?_
  refine rr_ald C hN (kR i) (kR_lt hNn hi) 4 hR_ce rfl (by decide) (1 - b) hb3 (by rw [eu2, ww_up_self, ev1, hbe]; exact nI_sub1 hb2) (v := .ref (B (kB i (1 - b)))) rfl dX1_runOtherBank_19 ?_
  refine rr_get C hN (kB i (1 - b)) (kB_lt hNn hi hb3) (hB_ce hb3) rfl kw_X1_runOtherBank_X0 1 (by decide) (List.mem_of_getElem? (i := 3) rfl) (v := .int (u2 (kB i (1 - b)) 1)) rfl dX1_runOtherBank_20 ?_
  refine rr_put C hN (kC i) (kC_lt hNn hi) hC_ce rfl kw_X1_runOtherBank_X1 4 (by decide) (List.mem_of_getElem? (i := 4) rfl) rfl (x := (u2 (kB i (1 - b)) 1)) rfl rfl (Nat.le_of_ble_eq_true rfl) (hC_ce.trans rfl) dX1_runOtherBank_23 (fun u3 eu3 H locs hN => ?_)
  exact rr_vret C hN dX1_runOtherBank_26 rfl (by subst_vars; rfl)
end
section
def cu_cut : Nat → Nat → ww_U → Int32 → ww_U × Int32
  | 0, _, u, c => (u, c)
  | d + 1, k, u, c => cu_cut d (k + 1) (cu_lose (ww_up u (kC k) 5 1) k) (if u (kC k) 5 = 0 then c + 1 else c)
def cu_join : Nat → Nat → Int32 → Int32 → ww_U → Int32 → ww_U × Int32
  | 0, _, _, _, u, c => (u, c)
  | d + 1, k, a, b, u, c => if cu_isOf u k a = 0 then (if cu_isOf u k b = 0 then cu_join d (k + 1) a b u c else cu_join d (k + 1) a b (ww_up u (kP k) 6 a) (c + 1)) else cu_join d (k + 1) a b (ww_up u (kP k) 6 a) (c + 1)
def cu_can : Nat → Nat → Int32 → ww_U → Int32
  | 0, _, _, _ => 1
  | d + 1, k, a, u => if cu_isOf u k a = 0 then cu_can d (k + 1) a u else if u (kP k) 4 = 2 then (if cu_away u k = 0 then cu_can d (k + 1) a u else 0) else 0
def cu_com : Nat → Nat → Int32 → ww_U → ww_U
  | 0, _, _, u => u
  | d + 1, k, a, u => if cu_isOf u k a = 0 then cu_com d (k + 1) a u else cu_com d (k + 1) a (ww_up u (kP k) 7 1)
def cu_asw : Nat → Nat → Int32 → ww_U → Int32
  | 0, _, _, _ => 1
  | d + 1, k, a, u => if cu_isOf u k a = 0 then cu_asw d (k + 1) a u else if u (kP k) 4 = 3 then cu_asw d (k + 1) a u else 0
def cu_mls : Nat → Nat → Int32 → ww_U → ww_U
  | 0, _, _, u => u
  | d + 1, k, a, u => if cu_isOf u k a = 0 then cu_mls d (k + 1) a (ww_up u (kC k) 9 0) else cu_mls d (k + 1) a (ww_up (ww_up u (kC k) 9 (u (kP k) 2)) (kP k) 4 0)
def cu_has : Nat → Nat → ww_U → Int32
  | 0, _, _ => 0
  | d + 1, k, u => if cu_ols u k = 0 then cu_has d (k + 1) u else 1
def cu_may : Nat → Nat → ww_U → Int32
  | 0, _, _ => 1
  | d + 1, k, u => if cu_ols u k = 0 then cu_may d (k + 1) u else if cu_away u k = 0 then (if u (kP k) 4 = 0 then cu_may d (k + 1) u else 0) else 0
def cu_jt : Nat → Nat → ww_U → Int32
  | 0, _, _ => 1
  | d + 1, k, u => if cu_ols u k = 0 then cu_jt d (k + 1) u else if u (kB k (cu_b u k)) 2 = u (kC k) 9 then cu_jt d (k + 1) u else 0
def cu_rb : Nat → Nat → ww_U → ww_U
  | 0, _, u => u
  | d + 1, k, u => if cu_ols u k = 0 then cu_rb d (k + 1) u else cu_rb d (k + 1) (ww_up (cu_other u k) (kC k) 9 0)
def cu_fo : Nat → Nat → Int32 → ww_U → Option Nat
  | 0, _, _, _ => none
  | d + 1, k, x, u => if u (kP k) 4 = 0 then cu_fo d (k + 1) x u else if u (kP k) 2 = x then some k else cu_fo d (k + 1) x u
set_option maxRecDepth 20000 in
theorem kw_X4_hasLastSet_X4 : ww_K wsX4_hasLastSet RX4 TX4 8 tyX4 := ⟨by decide +kernel, tyX4_ok, nmX4⟩
set_option maxHeartbeats 4000000 in
set_option maxRecDepth 100000 in
theorem lp_X4_hasLastSet {p : Program} {l : Launch} {e : Env} {s : State} {m : MethodId} {args : Array Value} {below : List Frame} {meth : Method} {c : Code} {D : va_G} {ca : Nat → ClassId} {B : Nat → Nat} {N n : Nat} {X : va_W} (C : ww_C D ca yX4_hasLastSet.cls cX4_hasLastSet 2 wsX4_hasLastSet (some .boolean) (ww_A B N X s.heap.size) p s m args meth c) (hNn : 36 + 8 * n ≤ N)  (hn8 : n ≤ 8)  {r : Option Value} {u' : ww_U} : ∀ (d k : Nat) (x : Int32) (u : ww_U), k + d = n → (u 29 1 = nI n) → (x = nI k) → r = some (.int (cu_has d k u)) → u' = u → ∀ (H : Heap) (locs : List Loc) (ls : Array Slot), ww_N D ca B N n u X (ww_A B N X s.heap.size) s.heap H locs → lv_has ls 2 [(0, .ref (B 29)), (1, .int x)] → W p l e (headSpec wsX4_hasLastSet ({ frames := 1, cells := 0, slots := 0, locals := 20 } : Room)).room s m args below meth c H locs 0 0 (MQ below (ww_Q D ca B N n X s.heap.size r u') args s 0 0 (ww_A B N X s.heap.size)) (F0 m 2 ls []) := by
  have hx := C.1.1
  have hb := C.1.2.1
  have hNB : 36 ≤ N := by omega
  have hNN : 29 ≤ N := by omega
  intro d
  induction d with
  | zero =>
    intro k x u hkd hc hxk hr hu H locs ls hN hl
    refine lv_iload_n hx hb dX4_hasLastSet_2 rfl (lv_at hl 1 rfl) ?_
    refine lv_aload_n hx hb dX4_hasLastSet_3 rfl (lv_at hl 0 rfl) ?_
    refine rr_get C hN 29 (Nat.lt_of_lt_of_le (by decide) hNB) rfl rfl kw_X4_hasLastSet_X4 1 (by decide) (List.mem_of_getElem? (i := 1) rfl) (v := .int (u 29 1)) rfl dX4_hasLastSet_4 ?_
    refine lv_icmp_ge (tgt := 30) hx hb dX4_hasLastSet_7 (by decide) (fun c_7 => ?_) (fun c_7 => absurd c_7 (fun h => h (by rw [hc, hxk, show k = n by omega]; exact nI_le (Nat.le_refl _) (by omega))))
    refine lv_iconst (v := 0) hx hb dX4_hasLastSet_30 (by decide) ?_
    exact rr_zret C hN dX4_hasLastSet_31 (by first | rfl | decide) (hr.trans rfl) hu
  | succ d ih =>
    intro k x u hkd hc hxk hr hu H locs ls hN hl
    have hkn : k < n := by omega
    refine lv_iload_n hx hb dX4_hasLastSet_2 rfl (lv_at hl 1 rfl) ?_
    refine lv_aload_n hx hb dX4_hasLastSet_3 rfl (lv_at hl 0 rfl) ?_
    refine rr_get C hN 29 (Nat.lt_of_lt_of_le (by decide) hNB) rfl rfl kw_X4_hasLastSet_X4 1 (by decide) (List.mem_of_getElem? (i := 1) rfl) (v := .int (u 29 1)) rfl dX4_hasLastSet_4 ?_
    refine lv_icmp_ge (tgt := 30) hx hb dX4_hasLastSet_7 (by decide) (fun c_7 => absurd c_7 (by rw [hc, hxk]; exact nI_ge (by omega) (by omega))) (fun c_7 => ?_)
    refine lv_aload_n hx hb dX4_hasLastSet_10 rfl (lv_at hl 0 rfl) ?_
    refine rr_get C hN 29 (Nat.lt_of_lt_of_le (by decide) hNB) rfl rfl kw_X4_hasLastSet_X4 0 (by decide) (List.mem_of_getElem? (i := 2) rfl) (v := .ref (B 30)) rfl dX4_hasLastSet_11 ?_
    refine lv_iload_n hx hb dX4_hasLastSet_14 rfl (lv_at hl 1 rfl) ?_
    refine rr_ald C hN 30 (Nat.lt_of_lt_of_le (by decide) hNB) 3 rfl rfl (by decide) k (by omega) hxk (v := .ref (B (kC k))) (by simp only [if_pos hkn]; rfl) dX4_hasLastSet_15 ?_
    refine rr_callV (As := []) C hN (kC k) (kC_lt hNn hkn) hC_ce rfl rfl (ct_X1_isOfLastSet l hkn hNn) gX4_hasLastSet_X1_isOfLastSet rfl rfl rfl 0 (by decide +kernel) ⟨Nat.le_of_ble_eq_true rfl, Nat.le_of_ble_eq_true rfl⟩ rfl hl.1 rfl (Nat.le_of_ble_eq_true rfl) ⟨Nat.zero_le _, Nat.zero_le _⟩ dX4_hasLastSet_16 (fun H locs hN => ?_)
    refine lv_topi (fun vs1 evs1 => ?_)
    refine lv_if_eq (tgt := 24) hx hb dX4_hasLastSet_19 (by decide) (fun c_19 => ?_) (fun c_19 => ?_)
    · obtain ⟨vs2, evs2⟩ : ∃ y : Int32, y = x + 1 := ⟨_, rfl⟩
      refine lv_iinc (v := vs2) (lv' := [(1, .int vs2), (0, .ref (B 29))]) hx hb dX4_hasLastSet_24 hl (k := 1) rfl (by rw [evs2]; rfl) (by decide) rfl (fun ls hl => ?_)
      refine lv_goto (tgt := 2) hx hb dX4_hasLastSet_27 (by decide) ?_
      exact ih (k + 1) vs2 u (by omega) hc (by rw [evs2, hxk]; exact nI_1 k) (hr.trans (by subst_vars; first | rfl | (simp only [cu_has]; done) | (simp only [cu_has]; (repeat' split) <;> first | rfl | contradiction | simp_all))) (hu.trans (by subst_vars; first | rfl | (simp only [cu_has]; done) | (simp only [cu_has]; (repeat' split) <;> first | rfl | contradiction | simp_all))) H locs ls hN (lv_sub hl [1, 0] rfl)
    · refine lv_iconst (v := 1) hx hb dX4_hasLastSet_22 (by decide) ?_
      exact rr_zret C hN dX4_hasLastSet_23 (by first | rfl | decide) (hr.trans (by subst_vars; first | rfl | (simp only [cu_has]; done) | (simp only [cu_has]; (repeat' split) <;> first | rfl | contradiction | simp_all))) hu
set_option maxHeartbeats 4000000 in
set_option maxRecDepth 100000 in
theorem ct_X4_hasLastSet (l : Launch) {D : va_G} {ca : Nat → ClassId} {B : Nat → Nat} {N n : Nat} {X : va_W} {u : ww_U}  (hNn : 36 + 8 * n ≤ N) (hn8 : n ≤ 8) (hc : u 29 1 = nI n) : ww_M l yX4_hasLastSet wsX4_hasLastSet ({ frames := 1, cells := 0, slots := 0, locals := 20 } : Room) D ca B N n X u [.ref (B 29)] (some (.int (cu_has n 0 u))) u := by
  refine ww_met (cc := cX4_hasLastSet) (maxL := 2) (ret := (some .boolean)) (by decide) rfl (Nat.le_of_ble_eq_true rfl) ?_
  intro p e s m args below meth c C hN ls hl
  have hl : lv_has ls 2 [(0, .ref (B 29))] := hl
  have hx := C.1.1
  have hb := C.1.2.1
  have hNB : 36 ≤ N := by omega
  have hNN : 29 ≤ N := by omega
  refine lv_iconst (v := 0) hx hb dX4_hasLastSet_0 (by decide) ?_
  refine lv_istore_n (lv' := [(1, .int 0), (0, .ref (B 29))]) hx hb dX4_hasLastSet_1 rfl hl (by decide) rfl (fun ls hl => ?_)
  exact lp_X4_hasLastSet C hNn  hn8 n 0 0 u (by omega) hc rfl rfl rfl _ _ _ hN (lv_sub hl [1, 0] rfl)
set_option maxRecDepth 20000 in
theorem kw_X4_lastSetMayGoBack_X4 : ww_K wsX4_lastSetMayGoBack RX4 TX4 8 tyX4 := ⟨by decide +kernel, tyX4_ok, nmX4⟩
set_option maxRecDepth 20000 in
theorem kw_X4_lastSetMayGoBack_X1 : ww_K wsX4_lastSetMayGoBack RX1 TX1 10 tyX1 := ⟨by decide +kernel, tyX1_ok, nmX1⟩
set_option maxRecDepth 20000 in
theorem kw_X4_lastSetMayGoBack_X3 : ww_K wsX4_lastSetMayGoBack RX3 TX3 8 tyX3 := ⟨by decide +kernel, tyX3_ok, nmX3⟩
set_option maxHeartbeats 4000000 in
set_option maxRecDepth 100000 in
theorem lp_X4_lastSetMayGoBack {p : Program} {l : Launch} {e : Env} {s : State} {m : MethodId} {args : Array Value} {below : List Frame} {meth : Method} {c : Code} {D : va_G} {ca : Nat → ClassId} {B : Nat → Nat} {N n : Nat} {X : va_W} (C : ww_C D ca yX4_lastSetMayGoBack.cls cX4_lastSetMayGoBack 3 wsX4_lastSetMayGoBack (some .boolean) (ww_A B N X s.heap.size) p s m args meth c) (hNn : 36 + 8 * n ≤ N)  (hn8 : n ≤ 8)  {r : Option Value} {u' : ww_U} : ∀ (d k : Nat) (x : Int32) (u : ww_U), k + d = n → (u 29 1 = nI n) → (x = nI k) → r = some (.int (cu_may d k u)) → u' = u → ∀ (H : Heap) (locs : List Loc) (ls : Array Slot), ww_N D ca B N n u X (ww_A B N X s.heap.size) s.heap H locs → lv_has ls 3 [(0, .ref (B 29)), (1, .int x)] → W p l e (headSpec wsX4_lastSetMayGoBack ({ frames := 1, cells := 0, slots := 0, locals := 20 } : Room)).room s m args below meth c H locs 0 0 (MQ below (ww_Q D ca B N n X s.heap.size r u') args s 0 0 (ww_A B N X s.heap.size)) (F0 m 2 ls []) := by
  have hx := C.1.1
  have hb := C.1.2.1
  have hNB : 36 ≤ N := by omega
  have hNN : 29 ≤ N := by omega
  intro d
  induction d with
  | zero =>
    intro k x u hkd hc hxk hr hu H locs ls hN hl
    refine lv_iload_n hx hb dX4_lastSetMayGoBack_2 rfl (lv_at hl 1 rfl) ?_
    refine lv_aload_n hx hb dX4_lastSetMayGoBack_3 rfl (lv_at hl 0 rfl) ?_
    refine rr_get C hN 29 (Nat.lt_of_lt_of_le (by decide) hNB) rfl rfl kw_X4_lastSetMayGoBack_X4 1 (by decide) (List.mem_of_getElem? (i := 1) rfl) (v := .int (u 29 1)) rfl dX4_lastSetMayGoBack_4 ?_
    refine lv_icmp_ge (tgt := 49) hx hb dX4_lastSetMayGoBack_7 (by decide) (fun c_7 => ?_) (fun c_7 => absurd c_7 (fun h => h (by rw [hc, hxk, show k = n by omega]; exact nI_le (Nat.le_refl _) (by omega))))
    refine lv_iconst (v := 1) hx hb dX4_lastSetMayGoBack_49 (by decide) ?_
    exact rr_zret C hN dX4_lastSetMayGoBack_50 (by first | rfl | decide) (hr.trans rfl) hu
  | succ d ih =>
    intro k x u hkd hc hxk hr hu H locs ls hN hl
    have hkn : k < n := by omega
    refine lv_iload_n hx hb dX4_lastSetMayGoBack_2 rfl (lv_at hl 1 rfl) ?_
    refine lv_aload_n hx hb dX4_lastSetMayGoBack_3 rfl (lv_at hl 0 rfl) ?_
    refine rr_get C hN 29 (Nat.lt_of_lt_of_le (by decide) hNB) rfl rfl kw_X4_lastSetMayGoBack_X4 1 (by decide) (List.mem_of_getElem? (i := 1) rfl) (v := .int (u 29 1)) rfl dX4_lastSetMayGoBack_4 ?_
    refine lv_icmp_ge (tgt := 49) hx hb dX4_lastSetMayGoBack_7 (by decide) (fun c_7 => absurd c_7 (by rw [hc, hxk]; exact nI_ge (by omega) (by omega))) (fun c_7 => ?_)
    refine lv_aload_n hx hb dX4_lastSetMayGoBack_10 rfl (lv_at hl 0 rfl) ?_
    refine rr_get C hN 29 (Nat.lt_of_lt_of_le (by decide) hNB) rfl rfl kw_X4_lastSetMayGoBack_X4 0 (by decide) (List.mem_of_getElem? (i := 2) rfl) (v := .ref (B 30)) rfl dX4_lastSetMayGoBack_11 ?_
    refine lv_iload_n hx hb dX4_lastSetMayGoBack_14 rfl (lv_at hl 1 rfl) ?_
    refine rr_ald C hN 30 (Nat.lt_of_lt_of_le (by decide) hNB) 3 rfl rfl (by decide) k (by omega) hxk (v := .ref (B (kC k))) (by simp only [if_pos hkn]; rfl) dX4_lastSetMayGoBack_15 ?_
    refine lv_astore_n (lv' := [(2, .ref (B (kC k))), (0, .ref (B 29)), (1, .int x)]) hx hb dX4_lastSetMayGoBack_16 rfl hl (by decide) rfl (fun ls hl => ?_)
    refine lv_aload_n hx hb dX4_lastSetMayGoBack_17 rfl (lv_at hl 0 rfl) ?_
    refine rr_callV (As := []) C hN (kC k) (kC_lt hNn hkn) hC_ce rfl rfl (ct_X1_isOfLastSet l hkn hNn) gX4_lastSetMayGoBack_X1_isOfLastSet rfl rfl rfl 0 (by decide +kernel) ⟨Nat.le_of_ble_eq_true rfl, Nat.le_of_ble_eq_true rfl⟩ rfl hl.1 rfl (Nat.le_of_ble_eq_true rfl) ⟨Nat.zero_le _, Nat.zero_le _⟩ dX4_lastSetMayGoBack_18 (fun H locs hN => ?_)
    refine lv_topi (fun vs1 evs1 => ?_)
    refine lv_if_eq (tgt := 43) hx hb dX4_lastSetMayGoBack_21 (by decide) (fun c_21 => ?_) (fun c_21 => ?_)
    · obtain ⟨vs2, evs2⟩ : ∃ y : Int32, y = x + 1 := ⟨_, rfl⟩
      refine lv_iinc (v := vs2) (lv' := [(1, .int vs2), (2, .ref (B (kC k))), (0, .ref (B 29))]) hx hb dX4_lastSetMayGoBack_43 hl (k := 2) rfl (by rw [evs2]; rfl) (by decide) rfl (fun ls hl => ?_)
      refine lv_goto (tgt := 2) hx hb dX4_lastSetMayGoBack_46 (by decide) ?_
      exact ih (k + 1) vs2 u (by omega) hc (by rw [evs2, hxk]; exact nI_1 k) (hr.trans (by subst_vars; first | rfl | (simp only [cu_may]; done) | (simp only [cu_may]; (repeat' split) <;> first | rfl | contradiction | simp_all))) (hu.trans (by subst_vars; first | rfl | (simp only [cu_may]; done) | (simp only [cu_may]; (repeat' split) <;> first | rfl | contradiction | simp_all))) H locs ls hN (lv_sub hl [2, 0] rfl)
    · refine lv_aload_n hx hb dX4_lastSetMayGoBack_24 rfl (lv_at hl 0 rfl) ?_
      refine rr_callV (As := []) C hN (kC k) (kC_lt hNn hkn) hC_ce rfl rfl (ct_X1_isAway l hkn hNn) gX4_lastSetMayGoBack_X1_isAway rfl rfl rfl 0 (by decide +kernel) ⟨Nat.le_of_ble_eq_true rfl, Nat.le_of_ble_eq_true rfl⟩ rfl hl.1 rfl (Nat.le_of_ble_eq_true rfl) ⟨Nat.zero_le _, Nat.zero_le _⟩ dX4_lastSetMayGoBack_25 (fun H locs hN => ?_)
      refine lv_topi (fun vs3 evs3 => ?_)
      refine lv_if_ne (tgt := 41) hx hb dX4_lastSetMayGoBack_28 (by decide) (fun c_28 => ?_) (fun c_28 => ?_)
      · refine lv_iconst (v := 0) hx hb dX4_lastSetMayGoBack_41 (by decide) ?_
        exact rr_zret C hN dX4_lastSetMayGoBack_42 (by first | rfl | decide) (hr.trans (by subst_vars; first | rfl | (simp only [cu_may]; done) | (simp only [cu_may]; (repeat' split) <;> first | rfl | contradiction | simp_all))) hu
      · refine lv_aload_n hx hb dX4_lastSetMayGoBack_31 rfl (lv_at hl 0 rfl) ?_
        refine rr_get C hN (kC k) (kC_lt hNn hkn) hC_ce rfl kw_X4_lastSetMayGoBack_X1 2 (by decide) (List.mem_of_getElem? (i := 3) rfl) (v := .ref (B (kP k))) rfl dX4_lastSetMayGoBack_32 ?_
        refine rr_get C hN (kP k) (kP_lt hNn hkn) hP_ce rfl kw_X4_lastSetMayGoBack_X3 4 (by decide) (List.mem_of_getElem? (i := 4) rfl) (v := .int (u (kP k) 4)) rfl dX4_lastSetMayGoBack_35 ?_
        refine lv_if_eq (tgt := 43) hx hb dX4_lastSetMayGoBack_38 (by decide) (fun c_38 => ?_) (fun c_38 => ?_)
        · obtain ⟨vs4, evs4⟩ : ∃ y : Int32, y = x + 1 := ⟨_, rfl⟩
          refine lv_iinc (v := vs4) (lv' := [(1, .int vs4), (2, .ref (B (kC k))), (0, .ref (B 29))]) hx hb dX4_lastSetMayGoBack_43 hl (k := 2) rfl (by rw [evs4]; rfl) (by decide) rfl (fun ls hl => ?_)
          refine lv_goto (tgt := 2) hx hb dX4_lastSetMayGoBack_46 (by decide) ?_
          exact ih (k + 1) vs4 u (by omega) hc (by rw [evs4, hxk]; exact nI_1 k) (hr.trans (by subst_vars; first | rfl | (simp only [cu_may]; done) | (simp only [cu_may]; (repeat' split) <;> first | rfl | contradiction | simp_all))) (hu.trans (by subst_vars; first | rfl | (simp only [cu_may]; done) | (simp only [cu_may]; (repeat' split) <;> first | rfl | contradiction | simp_all))) H locs ls hN (lv_sub hl [2, 0] rfl)
        · refine lv_iconst (v := 0) hx hb dX4_lastSetMayGoBack_41 (by decide) ?_
          exact rr_zret C hN dX4_lastSetMayGoBack_42 (by first | rfl | decide) (hr.trans (by subst_vars; first | rfl | (simp only [cu_may]; done) | (simp only [cu_may]; (repeat' split) <;> first | rfl | contradiction | simp_all))) hu
set_option maxHeartbeats 4000000 in
set_option maxRecDepth 100000 in
theorem ct_X4_lastSetMayGoBack (l : Launch) {D : va_G} {ca : Nat → ClassId} {B : Nat → Nat} {N n : Nat} {X : va_W} {u : ww_U}  (hNn : 36 + 8 * n ≤ N) (hn8 : n ≤ 8) (hc : u 29 1 = nI n) : ww_M l yX4_lastSetMayGoBack wsX4_lastSetMayGoBack ({ frames := 1, cells := 0, slots := 0, locals := 20 } : Room) D ca B N n X u [.ref (B 29)] (some (.int (cu_may n 0 u))) u := by
  refine ww_met (cc := cX4_lastSetMayGoBack) (maxL := 3) (ret := (some .boolean)) (by decide) rfl (Nat.le_of_ble_eq_true rfl) ?_
  intro p e s m args below meth c C hN ls hl
  have hl : lv_has ls 3 [(0, .ref (B 29))] := hl
  have hx := C.1.1
  have hb := C.1.2.1
  have hNB : 36 ≤ N := by omega
  have hNN : 29 ≤ N := by omega
  refine lv_iconst (v := 0) hx hb dX4_lastSetMayGoBack_0 (by decide) ?_
  refine lv_istore_n (lv' := [(1, .int 0), (0, .ref (B 29))]) hx hb dX4_lastSetMayGoBack_1 rfl hl (by decide) rfl (fun ls hl => ?_)
  exact lp_X4_lastSetMayGoBack C hNn  hn8 n 0 0 u (by omega) hc rfl rfl rfl _ _ _ hN (lv_sub hl [1, 0] rfl)
set_option maxRecDepth 20000 in
theorem kw_X4_allCanCommit_X4 : ww_K wsX4_allCanCommit RX4 TX4 8 tyX4 := ⟨by decide +kernel, tyX4_ok, nmX4⟩
set_option maxRecDepth 20000 in
theorem kw_X4_allCanCommit_X1 : ww_K wsX4_allCanCommit RX1 TX1 10 tyX1 := ⟨by decide +kernel, tyX1_ok, nmX1⟩
set_option maxRecDepth 20000 in
theorem kw_X4_allCanCommit_X3 : ww_K wsX4_allCanCommit RX3 TX3 8 tyX3 := ⟨by decide +kernel, tyX3_ok, nmX3⟩
set_option maxHeartbeats 4000000 in
set_option maxRecDepth 100000 in
theorem lp_X4_allCanCommit {p : Program} {l : Launch} {e : Env} {s : State} {m : MethodId} {args : Array Value} {below : List Frame} {meth : Method} {c : Code} {D : va_G} {ca : Nat → ClassId} {B : Nat → Nat} {N n : Nat} {X : va_W} (C : ww_C D ca yX4_allCanCommit.cls cX4_allCanCommit 4 wsX4_allCanCommit (some .boolean) (ww_A B N X s.heap.size) p s m args meth c) (hNn : 36 + 8 * n ≤ N) (a : Int32) (hn8 : n ≤ 8)  {r : Option Value} {u' : ww_U} : ∀ (d k : Nat) (x : Int32) (u : ww_U), k + d = n → (u 29 1 = nI n) → (x = nI k) → r = some (.int (cu_can d k a u)) → u' = u → ∀ (H : Heap) (locs : List Loc) (ls : Array Slot), ww_N D ca B N n u X (ww_A B N X s.heap.size) s.heap H locs → lv_has ls 4 [(0, .ref (B 29)), (1, .int a), (2, .int x)] → W p l e (headSpec wsX4_allCanCommit ({ frames := 1, cells := 0, slots := 0, locals := 21 } : Room)).room s m args below meth c H locs 0 0 (MQ below (ww_Q D ca B N n X s.heap.size r u') args s 0 0 (ww_A B N X s.heap.size)) (F0 m 2 ls []) := by
  have hx := C.1.1
  have hb := C.1.2.1
  have hNB : 36 ≤ N := by omega
  have hNN : 29 ≤ N := by omega
  intro d
  induction d with
  | zero =>
    intro k x u hkd hc hxk hr hu H locs ls hN hl
    refine lv_iload_n hx hb dX4_allCanCommit_2 rfl (lv_at hl 2 rfl) ?_
    refine lv_aload_n hx hb dX4_allCanCommit_3 rfl (lv_at hl 0 rfl) ?_
    refine rr_get C hN 29 (Nat.lt_of_lt_of_le (by decide) hNB) rfl rfl kw_X4_allCanCommit_X4 1 (by decide) (List.mem_of_getElem? (i := 1) rfl) (v := .int (u 29 1)) rfl dX4_allCanCommit_4 ?_
    refine lv_icmp_ge (tgt := 54) hx hb dX4_allCanCommit_7 (by decide) (fun c_7 => ?_) (fun c_7 => absurd c_7 (fun h => h (by rw [hc, hxk, show k = n by omega]; exact nI_le (Nat.le_refl _) (by omega))))
    refine lv_iconst (v := 1) hx hb dX4_allCanCommit_54 (by decide) ?_
    exact rr_zret C hN dX4_allCanCommit_55 (by first | rfl | decide) (hr.trans rfl) hu
  | succ d ih =>
    intro k x u hkd hc hxk hr hu H locs ls hN hl
    have hkn : k < n := by omega
    refine lv_iload_n hx hb dX4_allCanCommit_2 rfl (lv_at hl 2 rfl) ?_
    refine lv_aload_n hx hb dX4_allCanCommit_3 rfl (lv_at hl 0 rfl) ?_
    refine rr_get C hN 29 (Nat.lt_of_lt_of_le (by decide) hNB) rfl rfl kw_X4_allCanCommit_X4 1 (by decide) (List.mem_of_getElem? (i := 1) rfl) (v := .int (u 29 1)) rfl dX4_allCanCommit_4 ?_
    refine lv_icmp_ge (tgt := 54) hx hb dX4_allCanCommit_7 (by decide) (fun c_7 => absurd c_7 (by rw [hc, hxk]; exact nI_ge (by omega) (by omega))) (fun c_7 => ?_)
    refine lv_aload_n hx hb dX4_allCanCommit_10 rfl (lv_at hl 0 rfl) ?_
    refine rr_get C hN 29 (Nat.lt_of_lt_of_le (by decide) hNB) rfl rfl kw_X4_allCanCommit_X4 0 (by decide) (List.mem_of_getElem? (i := 2) rfl) (v := .ref (B 30)) rfl dX4_allCanCommit_11 ?_
    refine lv_iload_n hx hb dX4_allCanCommit_14 rfl (lv_at hl 2 rfl) ?_
    refine rr_ald C hN 30 (Nat.lt_of_lt_of_le (by decide) hNB) 3 rfl rfl (by decide) k (by omega) hxk (v := .ref (B (kC k))) (by simp only [if_pos hkn]; rfl) dX4_allCanCommit_15 ?_
    refine lv_astore_n (lv' := [(3, .ref (B (kC k))), (0, .ref (B 29)), (1, .int a), (2, .int x)]) hx hb dX4_allCanCommit_16 rfl hl (by decide) rfl (fun ls hl => ?_)
    refine lv_aload_n hx hb dX4_allCanCommit_17 rfl (lv_at hl 0 rfl) ?_
    refine rr_get C hN (kC k) (kC_lt hNn hkn) hC_ce rfl kw_X4_allCanCommit_X1 2 (by decide) (List.mem_of_getElem? (i := 3) rfl) (v := .ref (B (kP k))) rfl dX4_allCanCommit_18 ?_
    refine lv_iload_n hx hb dX4_allCanCommit_21 rfl (lv_at hl 2 rfl) ?_
    refine rr_callV (As := [.int a]) C hN (kP k) (kP_lt hNn hkn) hP_ce rfl rfl (ct_X3_isOf l hkn a hNn) gX4_allCanCommit_X3_isOf rfl rfl rfl 1 (by decide +kernel) ⟨Nat.le_of_ble_eq_true rfl, Nat.le_of_ble_eq_true rfl⟩ rfl hl.1 rfl (Nat.le_of_ble_eq_true rfl) ⟨Nat.zero_le _, Nat.zero_le _⟩ dX4_allCanCommit_22 (fun H locs hN => ?_)
    refine lv_topi (fun vs1 evs1 => ?_)
    refine lv_if_eq (tgt := 48) hx hb dX4_allCanCommit_25 (by decide) (fun c_25 => ?_) (fun c_25 => ?_)
    · obtain ⟨vs2, evs2⟩ : ∃ y : Int32, y = x + 1 := ⟨_, rfl⟩
      refine lv_iinc (v := vs2) (lv' := [(2, .int vs2), (3, .ref (B (kC k))), (0, .ref (B 29)), (1, .int a)]) hx hb dX4_allCanCommit_48 hl (k := 3) rfl (by rw [evs2]; rfl) (by decide) rfl (fun ls hl => ?_)
      refine lv_goto (tgt := 2) hx hb dX4_allCanCommit_51 (by decide) ?_
      exact ih (k + 1) vs2 u (by omega) hc (by rw [evs2, hxk]; exact nI_1 k) (hr.trans (by subst_vars; first | rfl | (simp only [cu_can]; done) | (simp only [cu_can]; (repeat' split) <;> first | rfl | contradiction | simp_all))) (hu.trans (by subst_vars; first | rfl | (simp only [cu_can]; done) | (simp only [cu_can]; (repeat' split) <;> first | rfl | contradiction | simp_all))) H locs ls hN (lv_sub hl [2, 3, 0] rfl)
    · refine lv_aload_n hx hb dX4_allCanCommit_28 rfl (lv_at hl 0 rfl) ?_
      refine rr_get C hN (kC k) (kC_lt hNn hkn) hC_ce rfl kw_X4_allCanCommit_X1 2 (by decide) (List.mem_of_getElem? (i := 3) rfl) (v := .ref (B (kP k))) rfl dX4_allCanCommit_29 ?_
      refine rr_get C hN (kP k) (kP_lt hNn hkn) hP_ce rfl kw_X4_allCanCommit_X3 4 (by decide) (List.mem_of_getElem? (i := 4) rfl) (v := .int (u (kP k) 4)) rfl dX4_allCanCommit_32 ?_
      refine lv_iconst (v := 2) hx hb dX4_allCanCommit_35 (by decide) ?_
      refine lv_icmp_ne (tgt := 46) hx hb dX4_allCanCommit_36 (by decide) (fun c_36 => ?_) (fun c_36 => ?_)
      · refine lv_iconst (v := 0) hx hb dX4_allCanCommit_46 (by decide) ?_
        exact rr_zret C hN dX4_allCanCommit_47 (by first | rfl | decide) (hr.trans (by subst_vars; first | rfl | (simp only [cu_can]; done) | (simp only [cu_can]; (repeat' split) <;> first | rfl | contradiction | simp_all))) hu
      · refine lv_aload_n hx hb dX4_allCanCommit_39 rfl (lv_at hl 0 rfl) ?_
        refine rr_callV (As := []) C hN (kC k) (kC_lt hNn hkn) hC_ce rfl rfl (ct_X1_isAway l hkn hNn) gX4_allCanCommit_X1_isAway rfl rfl rfl 0 (by decide +kernel) ⟨Nat.le_of_ble_eq_true rfl, Nat.le_of_ble_eq_true rfl⟩ rfl hl.1 rfl (Nat.le_of_ble_eq_true rfl) ⟨Nat.zero_le _, Nat.zero_le _⟩ dX4_allCanCommit_40 (fun H locs hN => ?_)
        refine lv_topi (fun vs3 evs3 => ?_)
        refine lv_if_eq (tgt := 48) hx hb dX4_allCanCommit_43 (by decide) (fun c_43 => ?_) (fun c_43 => ?_)
        · obtain ⟨vs4, evs4⟩ : ∃ y : Int32, y = x + 1 := ⟨_, rfl⟩
          refine lv_iinc (v := vs4) (lv' := [(2, .int vs4), (3, .ref (B (kC k))), (0, .ref (B 29)), (1, .int a)]) hx hb dX4_allCanCommit_48 hl (k := 3) rfl (by rw [evs4]; rfl) (by decide) rfl (fun ls hl => ?_)
          refine lv_goto (tgt := 2) hx hb dX4_allCanCommit_51 (by decide) ?_
          exact ih (k + 1) vs4 u (by omega) hc (by rw [evs4, hxk]; exact nI_1 k) (hr.trans (by subst_vars; first | rfl | (simp only [cu_can]; done) | (simp only [cu_can]; (repeat' split) <;> first | rfl | contradiction | simp_all))) (hu.trans (by subst_vars; first | rfl | (simp only [cu_can]; done) | (simp only [cu_can]; (repeat' split) <;> first | rfl | contradiction | simp_all))) H locs ls hN (lv_sub hl [2, 3, 0] rfl)
        · refine lv_iconst (v := 0) hx hb dX4_allCanCommit_46 (by decide) ?_
          exact rr_zret C hN dX4_allCanCommit_47 (by first | rfl | decide) (hr.trans (by subst_vars; first | rfl | (simp only [cu_can]; done) | (simp only [cu_can]; (repeat' split) <;> first | rfl | contradiction | simp_all))) hu
set_option maxHeartbeats 4000000 in
set_option maxRecDepth 100000 in
theorem ct_X4_allCanCommit (l : Launch) {D : va_G} {ca : Nat → ClassId} {B : Nat → Nat} {N n : Nat} {X : va_W} {u : ww_U} (a : Int32) (hNn : 36 + 8 * n ≤ N) (hn8 : n ≤ 8) (hc : u 29 1 = nI n) : ww_M l yX4_allCanCommit wsX4_allCanCommit ({ frames := 1, cells := 0, slots := 0, locals := 21 } : Room) D ca B N n X u [.ref (B 29), .int a] (some (.int (cu_can n 0 a u))) u := by
  refine ww_met (cc := cX4_allCanCommit) (maxL := 4) (ret := (some .boolean)) (by decide) rfl (Nat.le_of_ble_eq_true rfl) ?_
  intro p e s m args below meth c C hN ls hl
  have hl : lv_has ls 4 [(0, .ref (B 29)), (1, .int a)] := hl
  have hx := C.1.1
  have hb := C.1.2.1
  have hNB : 36 ≤ N := by omega
  have hNN : 29 ≤ N := by omega
  refine lv_iconst (v := 0) hx hb dX4_allCanCommit_0 (by decide) ?_
  refine lv_istore_n (lv' := [(2, .int 0), (0, .ref (B 29)), (1, .int a)]) hx hb dX4_allCanCommit_1 rfl hl (by decide) rfl (fun ls hl => ?_)
  exact lp_X4_allCanCommit C hNn a hn8 n 0 0 u (by omega) hc rfl rfl rfl _ _ _ hN (lv_sub hl [1, 2, 0] rfl)
set_option maxRecDepth 20000 in
theorem kw_X4_allSwitched_X4 : ww_K wsX4_allSwitched RX4 TX4 8 tyX4 := ⟨by decide +kernel, tyX4_ok, nmX4⟩
set_option maxRecDepth 20000 in
theorem kw_X4_allSwitched_X1 : ww_K wsX4_allSwitched RX1 TX1 10 tyX1 := ⟨by decide +kernel, tyX1_ok, nmX1⟩
set_option maxRecDepth 20000 in
theorem kw_X4_allSwitched_X3 : ww_K wsX4_allSwitched RX3 TX3 8 tyX3 := ⟨by decide +kernel, tyX3_ok, nmX3⟩
set_option maxHeartbeats 4000000 in
set_option maxRecDepth 100000 in
theorem lp_X4_allSwitched {p : Program} {l : Launch} {e : Env} {s : State} {m : MethodId} {args : Array Value} {below : List Frame} {meth : Method} {c : Code} {D : va_G} {ca : Nat → ClassId} {B : Nat → Nat} {N n : Nat} {X : va_W} (C : ww_C D ca yX4_allSwitched.cls cX4_allSwitched 4 wsX4_allSwitched (some .boolean) (ww_A B N X s.heap.size) p s m args meth c) (hNn : 36 + 8 * n ≤ N) (a : Int32) (hn8 : n ≤ 8)  {r : Option Value} {u' : ww_U} : ∀ (d k : Nat) (x : Int32) (u : ww_U), k + d = n → (u 29 1 = nI n) → (x = nI k) → r = some (.int (cu_asw d k a u)) → u' = u → ∀ (H : Heap) (locs : List Loc) (ls : Array Slot), ww_N D ca B N n u X (ww_A B N X s.heap.size) s.heap H locs → lv_has ls 4 [(0, .ref (B 29)), (1, .int a), (2, .int x)] → W p l e (headSpec wsX4_allSwitched ({ frames := 1, cells := 0, slots := 0, locals := 21 } : Room)).room s m args below meth c H locs 0 0 (MQ below (ww_Q D ca B N n X s.heap.size r u') args s 0 0 (ww_A B N X s.heap.size)) (F0 m 2 ls []) := by
  have hx := C.1.1
  have hb := C.1.2.1
  have hNB : 36 ≤ N := by omega
  have hNN : 29 ≤ N := by omega
  intro d
  induction d with
  | zero =>
    intro k x u hkd hc hxk hr hu H locs ls hN hl
    refine lv_iload_n hx hb dX4_allSwitched_2 rfl (lv_at hl 2 rfl) ?_
    refine lv_aload_n hx hb dX4_allSwitched_3 rfl (lv_at hl 0 rfl) ?_
    refine rr_get C hN 29 (Nat.lt_of_lt_of_le (by decide) hNB) rfl rfl kw_X4_allSwitched_X4 1 (by decide) (List.mem_of_getElem? (i := 1) rfl) (v := .int (u 29 1)) rfl dX4_allSwitched_4 ?_
    refine lv_icmp_ge (tgt := 44) hx hb dX4_allSwitched_7 (by decide) (fun c_7 => ?_) (fun c_7 => absurd c_7 (fun h => h (by rw [hc, hxk, show k = n by omega]; exact nI_le (Nat.le_refl _) (by omega))))
    refine lv_iconst (v := 1) hx hb dX4_allSwitched_44 (by decide) ?_
    exact rr_zret C hN dX4_allSwitched_45 (by first | rfl | decide) (hr.trans rfl) hu
  | succ d ih =>
    intro k x u hkd hc hxk hr hu H locs ls hN hl
    have hkn : k < n := by omega
    refine lv_iload_n hx hb dX4_allSwitched_2 rfl (lv_at hl 2 rfl) ?_
    refine lv_aload_n hx hb dX4_allSwitched_3 rfl (lv_at hl 0 rfl) ?_
    refine rr_get C hN 29 (Nat.lt_of_lt_of_le (by decide) hNB) rfl rfl kw_X4_allSwitched_X4 1 (by decide) (List.mem_of_getElem? (i := 1) rfl) (v := .int (u 29 1)) rfl dX4_allSwitched_4 ?_
    refine lv_icmp_ge (tgt := 44) hx hb dX4_allSwitched_7 (by decide) (fun c_7 => absurd c_7 (by rw [hc, hxk]; exact nI_ge (by omega) (by omega))) (fun c_7 => ?_)
    refine lv_aload_n hx hb dX4_allSwitched_10 rfl (lv_at hl 0 rfl) ?_
    refine rr_get C hN 29 (Nat.lt_of_lt_of_le (by decide) hNB) rfl rfl kw_X4_allSwitched_X4 0 (by decide) (List.mem_of_getElem? (i := 2) rfl) (v := .ref (B 30)) rfl dX4_allSwitched_11 ?_
    refine lv_iload_n hx hb dX4_allSwitched_14 rfl (lv_at hl 2 rfl) ?_
    refine rr_ald C hN 30 (Nat.lt_of_lt_of_le (by decide) hNB) 3 rfl rfl (by decide) k (by omega) hxk (v := .ref (B (kC k))) (by simp only [if_pos hkn]; rfl) dX4_allSwitched_15 ?_
    refine rr_get C hN (kC k) (kC_lt hNn hkn) hC_ce rfl kw_X4_allSwitched_X1 2 (by decide) (List.mem_of_getElem? (i := 3) rfl) (v := .ref (B (kP k))) rfl dX4_allSwitched_16 ?_
    refine lv_astore_n (lv' := [(3, .ref (B (kP k))), (0, .ref (B 29)), (1, .int a), (2, .int x)]) hx hb dX4_allSwitched_19 rfl hl (by decide) rfl (fun ls hl => ?_)
    refine lv_aload_n hx hb dX4_allSwitched_20 rfl (lv_at hl 0 rfl) ?_
    refine lv_iload_n hx hb dX4_allSwitched_21 rfl (lv_at hl 2 rfl) ?_
    refine rr_callV (As := [.int a]) C hN (kP k) (kP_lt hNn hkn) hP_ce rfl rfl (ct_X3_isOf l hkn a hNn) gX4_allSwitched_X3_isOf rfl rfl rfl 1 (by decide +kernel) ⟨Nat.le_of_ble_eq_true rfl, Nat.le_of_ble_eq_true rfl⟩ rfl hl.1 rfl (Nat.le_of_ble_eq_true rfl) ⟨Nat.zero_le _, Nat.zero_le _⟩ dX4_allSwitched_22 (fun H locs hN => ?_)
    refine lv_topi (fun vs1 evs1 => ?_)
    refine lv_if_eq (tgt := 38) hx hb dX4_allSwitched_25 (by decide) (fun c_25 => ?_) (fun c_25 => ?_)
    · obtain ⟨vs2, evs2⟩ : ∃ y : Int32, y = x + 1 := ⟨_, rfl⟩
      refine lv_iinc (v := vs2) (lv' := [(2, .int vs2), (3, .ref (B (kP k))), (0, .ref (B 29)), (1, .int a)]) hx hb dX4_allSwitched_38 hl (k := 3) rfl (by rw [evs2]; rfl) (by decide) rfl (fun ls hl => ?_)
      refine lv_goto (tgt := 2) hx hb dX4_allSwitched_41 (by decide) ?_
      exact ih (k + 1) vs2 u (by omega) hc (by rw [evs2, hxk]; exact nI_1 k) (hr.trans (by subst_vars; first | rfl | (simp only [cu_asw]; done) | (simp only [cu_asw]; (repeat' split) <;> first | rfl | contradiction | simp_all))) (hu.trans (by subst_vars; first | rfl | (simp only [cu_asw]; done) | (simp only [cu_asw]; (repeat' split) <;> first | rfl | contradiction | simp_all))) H locs ls hN (lv_sub hl [2, 3, 0] rfl)
    · refine lv_aload_n hx hb dX4_allSwitched_28 rfl (lv_at hl 0 rfl) ?_
      refine rr_get C hN (kP k) (kP_lt hNn hkn) hP_ce rfl kw_X4_allSwitched_X3 4 (by decide) (List.mem_of_getElem? (i := 4) rfl) (v := .int (u (kP k) 4)) rfl dX4_allSwitched_29 ?_
      refine lv_iconst (v := 3) hx hb dX4_allSwitched_32 (by decide) ?_
      refine lv_icmp_eq (tgt := 38) hx hb dX4_allSwitched_33 (by decide) (fun c_33 => ?_) (fun c_33 => ?_)
      · obtain ⟨vs3, evs3⟩ : ∃ y : Int32, y = x + 1 := ⟨_, rfl⟩
        refine lv_iinc (v := vs3) (lv' := [(2, .int vs3), (3, .ref (B (kP k))), (0, .ref (B 29)), (1, .int a)]) hx hb dX4_allSwitched_38 hl (k := 3) rfl (by rw [evs3]; rfl) (by decide) rfl (fun ls hl => ?_)
        refine lv_goto (tgt := 2) hx hb dX4_allSwitched_41 (by decide) ?_
        exact ih (k + 1) vs3 u (by omega) hc (by rw [evs3, hxk]; exact nI_1 k) (hr.trans (by subst_vars; first | rfl | (simp only [cu_asw]; done) | (simp only [cu_asw]; (repeat' split) <;> first | rfl | contradiction | simp_all))) (hu.trans (by subst_vars; first | rfl | (simp only [cu_asw]; done) | (simp only [cu_asw]; (repeat' split) <;> first | rfl | contradiction | simp_all))) H locs ls hN (lv_sub hl [2, 3, 0] rfl)
      · refine lv_iconst (v := 0) hx hb dX4_allSwitched_36 (by decide) ?_
        exact rr_zret C hN dX4_allSwitched_37 (by first | rfl | decide) (hr.trans (by subst_vars; first | rfl | (simp only [cu_asw]; done) | (simp only [cu_asw]; (repeat' split) <;> first | rfl | contradiction | simp_all))) hu
set_option maxHeartbeats 4000000 in
set_option maxRecDepth 100000 in
theorem ct_X4_allSwitched (l : Launch) {D : va_G} {ca : Nat → ClassId} {B : Nat → Nat} {N n : Nat} {X : va_W} {u : ww_U} (a : Int32) (hNn : 36 + 8 * n ≤ N) (hn8 : n ≤ 8) (hc : u 29 1 = nI n) : ww_M l yX4_allSwitched wsX4_allSwitched ({ frames := 1, cells := 0, slots := 0, locals := 21 } : Room) D ca B N n X u [.ref (B 29), .int a] (some (.int (cu_asw n 0 a u))) u := by
  refine ww_met (cc := cX4_allSwitched) (maxL := 4) (ret := (some .boolean)) (by decide) rfl (Nat.le_of_ble_eq_true rfl) ?_
  intro p e s m args below meth c C hN ls hl
  have hl : lv_has ls 4 [(0, .ref (B 29)), (1, .int a)] := hl
  have hx := C.1.1
  have hb := C.1.2.1
  have hNB : 36 ≤ N := by omega
  have hNN : 29 ≤ N := by omega
  refine lv_iconst (v := 0) hx hb dX4_allSwitched_0 (by decide) ?_
  refine lv_istore_n (lv' := [(2, .int 0), (0, .ref (B 29)), (1, .int a)]) hx hb dX4_allSwitched_1 rfl hl (by decide) rfl (fun ls hl => ?_)
  exact lp_X4_allSwitched C hNn a hn8 n 0 0 u (by omega) hc rfl rfl rfl _ _ _ hN (lv_sub hl [1, 2, 0] rfl)
set_option maxRecDepth 20000 in
theorem kw_X4_commit_X4 : ww_K wsX4_commit RX4 TX4 8 tyX4 := ⟨by decide +kernel, tyX4_ok, nmX4⟩
set_option maxRecDepth 20000 in
theorem kw_X4_commit_X1 : ww_K wsX4_commit RX1 TX1 10 tyX1 := ⟨by decide +kernel, tyX1_ok, nmX1⟩
set_option maxRecDepth 20000 in
theorem kw_X4_commit_X3 : ww_K wsX4_commit RX3 TX3 8 tyX3 := ⟨by decide +kernel, tyX3_ok, nmX3⟩
set_option maxHeartbeats 4000000 in
set_option maxRecDepth 100000 in
theorem lp_X4_commit {p : Program} {l : Launch} {e : Env} {s : State} {m : MethodId} {args : Array Value} {below : List Frame} {meth : Method} {c : Code} {D : va_G} {ca : Nat → ClassId} {B : Nat → Nat} {N n : Nat} {X : va_W} (C : ww_C D ca yX4_commit.cls cX4_commit 4 wsX4_commit none (ww_A B N X s.heap.size) p s m args meth c) (hNn : 36 + 8 * n ≤ N) (a : Int32) (hn8 : n ≤ 8)  {r : Option Value} {u' : ww_U} : ∀ (d k : Nat) (x : Int32) (u : ww_U), k + d = n → (u 29 1 = nI n) → (x = nI k) → r = none → u' = cu_com d k a u → ∀ (H : Heap) (locs : List Loc) (ls : Array Slot), ww_N D ca B N n u X (ww_A B N X s.heap.size) s.heap H locs → lv_has ls 4 [(0, .ref (B 29)), (1, .int a), (2, .int x)] → W p l e (headSpec wsX4_commit ({ frames := 1, cells := 0, slots := 0, locals := 21 } : Room)).room s m args below meth c H locs 0 0 (MQ below (ww_Q D ca B N n X s.heap.size r u') args s 0 0 (ww_A B N X s.heap.size)) (F0 m 2 ls []) := by
  have hx := C.1.1
  have hb := C.1.2.1
  have hNB : 36 ≤ N := by omega
  have hNN : 29 ≤ N := by omega
  intro d
  induction d with
  | zero =>
    intro k x u hkd hc hxk hr hu H locs ls hN hl
    refine lv_iload_n hx hb dX4_commit_2 rfl (lv_at hl 2 rfl) ?_
    refine lv_aload_n hx hb dX4_commit_3 rfl (lv_at hl 0 rfl) ?_
    refine rr_get C hN 29 (Nat.lt_of_lt_of_le (by decide) hNB) rfl rfl kw_X4_commit_X4 1 (by decide) (List.mem_of_getElem? (i := 1) rfl) (v := .int (u 29 1)) rfl dX4_commit_4 ?_
    refine lv_icmp_ge (tgt := 39) hx hb dX4_commit_7 (by decide) (fun c_7 => ?_) (fun c_7 => absurd c_7 (fun h => h (by rw [hc, hxk, show k = n by omega]; exact nI_le (Nat.le_refl _) (by omega))))
    exact rr_vret C hN dX4_commit_39 hr hu
  | succ d ih =>
    intro k x u hkd hc hxk hr hu H locs ls hN hl
    have hkn : k < n := by omega
    refine lv_iload_n hx hb dX4_commit_2 rfl (lv_at hl 2 rfl) ?_
    refine lv_aload_n hx hb dX4_commit_3 rfl (lv_at hl 0 rfl) ?_
    refine rr_get C hN 29 (Nat.lt_of_lt_of_le (by decide) hNB) rfl rfl kw_X4_commit_X4 1 (by decide) (List.mem_of_getElem? (i := 1) rfl) (v := .int (u 29 1)) rfl dX4_commit_4 ?_
    refine lv_icmp_ge (tgt := 39) hx hb dX4_commit_7 (by decide) (fun c_7 => absurd c_7 (by rw [hc, hxk]; exact nI_ge (by omega) (by omega))) (fun c_7 => ?_)
    refine lv_aload_n hx hb dX4_commit_10 rfl (lv_at hl 0 rfl) ?_
    refine rr_get C hN 29 (Nat.lt_of_lt_of_le (by decide) hNB) rfl rfl kw_X4_commit_X4 0 (by decide) (List.mem_of_getElem? (i := 2) rfl) (v := .ref (B 30)) rfl dX4_commit_11 ?_
    refine lv_iload_n hx hb dX4_commit_14 rfl (lv_at hl 2 rfl) ?_
    refine rr_ald C hN 30 (Nat.lt_of_lt_of_le (by decide) hNB) 3 rfl rfl (by decide) k (by omega) hxk (v := .ref (B (kC k))) (by simp only [if_pos hkn]; rfl) dX4_commit_15 ?_
    refine rr_get C hN (kC k) (kC_lt hNn hkn) hC_ce rfl kw_X4_commit_X1 2 (by decide) (List.mem_of_getElem? (i := 3) rfl) (v := .ref (B (kP k))) rfl dX4_commit_16 ?_
    refine lv_astore_n (lv' := [(3, .ref (B (kP k))), (0, .ref (B 29)), (1, .int a), (2, .int x)]) hx hb dX4_commit_19 rfl hl (by decide) rfl (fun ls hl => ?_)
    refine lv_aload_n hx hb dX4_commit_20 rfl (lv_at hl 0 rfl) ?_
    refine lv_iload_n hx hb dX4_commit_21 rfl (lv_at hl 2 rfl) ?_
    refine rr_callV (As := [.int a]) C hN (kP k) (kP_lt hNn hkn) hP_ce rfl rfl (ct_X3_isOf l hkn a hNn) gX4_commit_X3_isOf rfl rfl rfl 1 (by decide +kernel) ⟨Nat.le_of_ble_eq_true rfl, Nat.le_of_ble_eq_true rfl⟩ rfl hl.1 rfl (Nat.le_of_ble_eq_true rfl) ⟨Nat.zero_le _, Nat.zero_le _⟩ dX4_commit_22 (fun H locs hN => ?_)
    refine lv_topi (fun vs1 evs1 => ?_)
    refine lv_if_eq (tgt := 33) hx hb dX4_commit_25 (by decide) (fun c_25 => ?_) (fun c_25 => ?_)
    · obtain ⟨vs2, evs2⟩ : ∃ y : Int32, y = x + 1 := ⟨_, rfl⟩
      refine lv_iinc (v := vs2) (lv' := [(2, .int vs2), (3, .ref (B (kP k))), (0, .ref (B 29)), (1, .int a)]) hx hb dX4_commit_33 hl (k := 3) rfl (by rw [evs2]; rfl) (by decide) rfl (fun ls hl => ?_)
      refine lv_goto (tgt := 2) hx hb dX4_commit_36 (by decide) ?_
      exact ih (k + 1) vs2 u (by omega) hc (by rw [evs2, hxk]; exact nI_1 k) (hr.trans (by subst_vars; first | rfl | (simp only [cu_com]; done) | (simp only [cu_com]; (repeat' split) <;> first | rfl | contradiction | simp_all))) (hu.trans (by subst_vars; first | rfl | (simp only [cu_com]; done) | (simp only [cu_com]; (repeat' split) <;> first | rfl | contradiction | simp_all))) H locs ls hN (lv_sub hl [2, 3, 0] rfl)
    · refine lv_aload_n hx hb dX4_commit_28 rfl (lv_at hl 0 rfl) ?_
      refine lv_iconst (v := 1) hx hb dX4_commit_29 (by decide) ?_
      refine rr_put C hN (kP k) (kP_lt hNn hkn) hP_ce rfl kw_X4_commit_X3 7 (by decide) (List.mem_of_getElem? (i := 4) rfl) rfl (x := 1) (by decide) (by decide) (Nat.le_of_ble_eq_true rfl) (hP_ce.trans rfl) dX4_commit_30 (fun us3 eus3 H locs hN => ?_)
      obtain ⟨vs4, evs4⟩ : ∃ y : Int32, y = x + 1 := ⟨_, rfl⟩
      refine lv_iinc (v := vs4) (lv' := [(2, .int vs4), (3, .ref (B (kP k))), (0, .ref (B 29)), (1, .int a)]) hx hb dX4_commit_33 hl (k := 3) rfl (by rw [evs4]; rfl) (by decide) rfl (fun ls hl => ?_)
      refine lv_goto (tgt := 2) hx hb dX4_commit_36 (by decide) ?_
      exact ih (k + 1) vs4 us3 (by omega) (by subst_vars; first | exact hc | (rw [ww_up_ne (by simp only [kC, kP]; omega)]; exact hc) | (rw [ww_up_ne (by simp only [kC, kP]; omega), ww_up_ne (by simp only [kC, kP]; omega)]; exact hc)) (by rw [evs4, hxk]; exact nI_1 k) (hr.trans (by subst_vars; first | rfl | (simp only [cu_com]; done) | (simp only [cu_com]; (repeat' split) <;> first | rfl | contradiction | simp_all))) (hu.trans (by subst_vars; first | rfl | (simp only [cu_com]; done) | (simp only [cu_com]; (repeat' split) <;> first | rfl | contradiction | simp_all))) H locs ls hN (lv_sub hl [2, 3, 0] rfl)
set_option maxHeartbeats 4000000 in
set_option maxRecDepth 100000 in
theorem ct_X4_commit (l : Launch) {D : va_G} {ca : Nat → ClassId} {B : Nat → Nat} {N n : Nat} {X : va_W} {u : ww_U} (a : Int32) (hNn : 36 + 8 * n ≤ N) (hn8 : n ≤ 8) (hc : u 29 1 = nI n) : ww_M l yX4_commit wsX4_commit ({ frames := 1, cells := 0, slots := 0, locals := 21 } : Room) D ca B N n X u [.ref (B 29), .int a] none (cu_com n 0 a u) := by
  refine ww_met (cc := cX4_commit) (maxL := 4) (ret := none) (by decide) rfl (Nat.le_of_ble_eq_true rfl) ?_
  intro p e s m args below meth c C hN ls hl
  have hl : lv_has ls 4 [(0, .ref (B 29)), (1, .int a)] := hl
  have hx := C.1.1
  have hb := C.1.2.1
  have hNB : 36 ≤ N := by omega
  have hNN : 29 ≤ N := by omega
  refine lv_iconst (v := 0) hx hb dX4_commit_0 (by decide) ?_
  refine lv_istore_n (lv' := [(2, .int 0), (0, .ref (B 29)), (1, .int a)]) hx hb dX4_commit_1 rfl hl (by decide) rfl (fun ls hl => ?_)
  exact lp_X4_commit C hNn a hn8 n 0 0 u (by omega) hc rfl rfl rfl _ _ _ hN (lv_sub hl [1, 2, 0] rfl)
set_option maxRecDepth 20000 in
theorem kw_X4_makeLastSet_X4 : ww_K wsX4_makeLastSet RX4 TX4 8 tyX4 := ⟨by decide +kernel, tyX4_ok, nmX4⟩
set_option maxRecDepth 20000 in
theorem kw_X4_makeLastSet_X1 : ww_K wsX4_makeLastSet RX1 TX1 10 tyX1 := ⟨by decide +kernel, tyX1_ok, nmX1⟩
set_option maxRecDepth 20000 in
theorem kw_X4_makeLastSet_X3 : ww_K wsX4_makeLastSet RX3 TX3 8 tyX3 := ⟨by decide +kernel, tyX3_ok, nmX3⟩
set_option maxHeartbeats 4000000 in
set_option maxRecDepth 100000 in
theorem lp_X4_makeLastSet {p : Program} {l : Launch} {e : Env} {s : State} {m : MethodId} {args : Array Value} {below : List Frame} {meth : Method} {c : Code} {D : va_G} {ca : Nat → ClassId} {B : Nat → Nat} {N n : Nat} {X : va_W} (C : ww_C D ca yX4_makeLastSet.cls cX4_makeLastSet 4 wsX4_makeLastSet none (ww_A B N X s.heap.size) p s m args meth c) (hNn : 36 + 8 * n ≤ N) (a : Int32) (hn8 : n ≤ 8)  {r : Option Value} {u' : ww_U} : ∀ (d k : Nat) (x : Int32) (u : ww_U), k + d = n → (u 29 1 = nI n) → (x = nI k) → r = none → u' = cu_mls d k a u → ∀ (H : Heap) (locs : List Loc) (ls : Array Slot), ww_N D ca B N n u X (ww_A B N X s.heap.size) s.heap H locs → lv_has ls 4 [(0, .ref (B 29)), (1, .int a), (2, .int x)] → W p l e (headSpec wsX4_makeLastSet ({ frames := 1, cells := 0, slots := 0, locals := 21 } : Room)).room s m args below meth c H locs 0 0 (MQ below (ww_Q D ca B N n X s.heap.size r u') args s 0 0 (ww_A B N X s.heap.size)) (F0 m 2 ls []) := by
  have hx := C.1.1
  have hb := C.1.2.1
  have hNB : 36 ≤ N := by omega
  have hNN : 29 ≤ N := by omega
  intro d
  induction d with
  | zero =>
    intro k x u hkd hc hxk hr hu H locs ls hN hl
    refine lv_iload_n hx hb dX4_makeLastSet_2 rfl (lv_at hl 2 rfl) ?_
    refine lv_aload_n hx hb dX4_makeLastSet_3 rfl (lv_at hl 0 rfl) ?_
    refine rr_get C hN 29 (Nat.lt_of_lt_of_le (by decide) hNB) rfl rfl kw_X4_makeLastSet_X4 1 (by decide) (List.mem_of_getElem? (i := 1) rfl) (v := .int (u 29 1)) rfl dX4_makeLastSet_4 ?_
    refine lv_icmp_ge (tgt := 61) hx hb dX4_makeLastSet_7 (by decide) (fun c_7 => ?_) (fun c_7 => absurd c_7 (fun h => h (by rw [hc, hxk, show k = n by omega]; exact nI_le (Nat.le_refl _) (by omega))))
    exact rr_vret C hN dX4_makeLastSet_61 hr hu
  | succ d ih =>
    intro k x u hkd hc hxk hr hu H locs ls hN hl
    have hkn : k < n := by omega
    refine lv_iload_n hx hb dX4_makeLastSet_2 rfl (lv_at hl 2 rfl) ?_
    refine lv_aload_n hx hb dX4_makeLastSet_3 rfl (lv_at hl 0 rfl) ?_
    refine rr_get C hN 29 (Nat.lt_of_lt_of_le (by decide) hNB) rfl rfl kw_X4_makeLastSet_X4 1 (by decide) (List.mem_of_getElem? (i := 1) rfl) (v := .int (u 29 1)) rfl dX4_makeLastSet_4 ?_
    refine lv_icmp_ge (tgt := 61) hx hb dX4_makeLastSet_7 (by decide) (fun c_7 => absurd c_7 (by rw [hc, hxk]; exact nI_ge (by omega) (by omega))) (fun c_7 => ?_)
    refine lv_aload_n hx hb dX4_makeLastSet_10 rfl (lv_at hl 0 rfl) ?_
    refine rr_get C hN 29 (Nat.lt_of_lt_of_le (by decide) hNB) rfl rfl kw_X4_makeLastSet_X4 0 (by decide) (List.mem_of_getElem? (i := 2) rfl) (v := .ref (B 30)) rfl dX4_makeLastSet_11 ?_
    refine lv_iload_n hx hb dX4_makeLastSet_14 rfl (lv_at hl 2 rfl) ?_
    refine rr_ald C hN 30 (Nat.lt_of_lt_of_le (by decide) hNB) 3 rfl rfl (by decide) k (by omega) hxk (v := .ref (B (kC k))) (by simp only [if_pos hkn]; rfl) dX4_makeLastSet_15 ?_
    refine lv_astore_n (lv' := [(3, .ref (B (kC k))), (0, .ref (B 29)), (1, .int a), (2, .int x)]) hx hb dX4_makeLastSet_16 rfl hl (by decide) rfl (fun ls hl => ?_)
    refine lv_aload_n hx hb dX4_makeLastSet_17 rfl (lv_at hl 0 rfl) ?_
    refine rr_get C hN (kC k) (kC_lt hNn hkn) hC_ce rfl kw_X4_makeLastSet_X1 2 (by decide) (List.mem_of_getElem? (i := 3) rfl) (v := .ref (B (kP k))) rfl dX4_makeLastSet_18 ?_
    refine lv_iload_n hx hb dX4_makeLastSet_21 rfl (lv_at hl 2 rfl) ?_
    refine rr_callV (As := [.int a]) C hN (kP k) (kP_lt hNn hkn) hP_ce rfl rfl (ct_X3_isOf l hkn a hNn) gX4_makeLastSet_X3_isOf rfl rfl rfl 1 (by decide +kernel) ⟨Nat.le_of_ble_eq_true rfl, Nat.le_of_ble_eq_true rfl⟩ rfl hl.1 rfl (Nat.le_of_ble_eq_true rfl) ⟨Nat.zero_le _, Nat.zero_le _⟩ dX4_makeLastSet_22 (fun H locs hN => ?_)
    refine lv_topi (fun vs1 evs1 => ?_)
    refine lv_if_eq (tgt := 50) hx hb dX4_makeLastSet_25 (by decide) (fun c_25 => ?_) (fun c_25 => ?_)
    · refine lv_aload_n hx hb dX4_makeLastSet_50 rfl (lv_at hl 0 rfl) ?_
      refine lv_iconst (v := 0) hx hb dX4_makeLastSet_51 (by decide) ?_
      refine rr_put C hN (kC k) (kC_lt hNn hkn) hC_ce rfl kw_X4_makeLastSet_X1 9 (by decide) (List.mem_of_getElem? (i := 5) rfl) rfl (x := 0) rfl rfl (Nat.le_of_ble_eq_true rfl) (hC_ce.trans rfl) dX4_makeLastSet_52 (fun us2 eus2 H locs hN => ?_)
      obtain ⟨vs3, evs3⟩ : ∃ y : Int32, y = x + 1 := ⟨_, rfl⟩
      refine lv_iinc (v := vs3) (lv' := [(2, .int vs3), (3, .ref (B (kC k))), (0, .ref (B 29)), (1, .int a)]) hx hb dX4_makeLastSet_55 hl (k := 3) rfl (by rw [evs3]; rfl) (by decide) rfl (fun ls hl => ?_)
      refine lv_goto (tgt := 2) hx hb dX4_makeLastSet_58 (by decide) ?_
      exact ih (k + 1) vs3 us2 (by omega) (by subst_vars; first | exact hc | (rw [ww_up_ne (by simp only [kC, kP]; omega)]; exact hc) | (rw [ww_up_ne (by simp only [kC, kP]; omega), ww_up_ne (by simp only [kC, kP]; omega)]; exact hc)) (by rw [evs3, hxk]; exact nI_1 k) (hr.trans (by subst_vars; first | rfl | (simp only [cu_mls]; done) | (simp only [cu_mls]; (repeat' split) <;> first | rfl | contradiction | simp_all))) (hu.trans (by subst_vars; first | rfl | (simp only [cu_mls]; done) | (simp only [cu_mls]; (repeat' split) <;> first | rfl | contradiction | simp_all))) H locs ls hN (lv_sub hl [2, 3, 0] rfl)
    · refine lv_aload_n hx hb dX4_makeLastSet_28 rfl (lv_at hl 0 rfl) ?_
      refine lv_aload_n hx hb dX4_makeLastSet_29 rfl (lv_at hl 0 rfl) ?_
      refine rr_get C hN (kC k) (kC_lt hNn hkn) hC_ce rfl kw_X4_makeLastSet_X1 2 (by decide) (List.mem_of_getElem? (i := 3) rfl) (v := .ref (B (kP k))) rfl dX4_makeLastSet_30 ?_
      refine rr_get C hN (kP k) (kP_lt hNn hkn) hP_ce rfl kw_X4_makeLastSet_X3 2 (by decide) (List.mem_of_getElem? (i := 4) rfl) (v := .int (u (kP k) 2)) rfl dX4_makeLastSet_33 ?_
      refine rr_put C hN (kC k) (kC_lt hNn hkn) hC_ce rfl kw_X4_makeLastSet_X1 9 (by decide) (List.mem_of_getElem? (i := 5) rfl) rfl (x := (u (kP k) 2)) rfl rfl (Nat.le_of_ble_eq_true rfl) (hC_ce.trans rfl) dX4_makeLastSet_36 (fun us4 eus4 H locs hN => ?_)
      refine lv_aload_n hx hb dX4_makeLastSet_39 rfl (lv_at hl 0 rfl) ?_
      refine rr_get C hN (kC k) (kC_lt hNn hkn) hC_ce rfl kw_X4_makeLastSet_X1 2 (by decide) (List.mem_of_getElem? (i := 3) rfl) (v := .ref (B (kP k))) rfl dX4_makeLastSet_40 ?_
      refine lv_iconst (v := 0) hx hb dX4_makeLastSet_43 (by decide) ?_
      refine rr_put C hN (kP k) (kP_lt hNn hkn) hP_ce rfl kw_X4_makeLastSet_X3 4 (by decide) (List.mem_of_getElem? (i := 6) rfl) rfl (x := 0) rfl rfl (Nat.le_of_ble_eq_true rfl) (hP_ce.trans rfl) dX4_makeLastSet_44 (fun us5 eus5 H locs hN => ?_)
      refine lv_goto (tgt := 55) hx hb dX4_makeLastSet_47 (by decide) ?_
      obtain ⟨vs6, evs6⟩ : ∃ y : Int32, y = x + 1 := ⟨_, rfl⟩
      refine lv_iinc (v := vs6) (lv' := [(2, .int vs6), (3, .ref (B (kC k))), (0, .ref (B 29)), (1, .int a)]) hx hb dX4_makeLastSet_55 hl (k := 3) rfl (by rw [evs6]; rfl) (by decide) rfl (fun ls hl => ?_)
      refine lv_goto (tgt := 2) hx hb dX4_makeLastSet_58 (by decide) ?_
      exact ih (k + 1) vs6 us5 (by omega) (by subst_vars; first | exact hc | (rw [ww_up_ne (by simp only [kC, kP]; omega)]; exact hc) | (rw [ww_up_ne (by simp only [kC, kP]; omega), ww_up_ne (by simp only [kC, kP]; omega)]; exact hc)) (by rw [evs6, hxk]; exact nI_1 k) (hr.trans (by subst_vars; first | rfl | (simp only [cu_mls]; done) | (simp only [cu_mls]; (repeat' split) <;> first | rfl | contradiction | simp_all))) (hu.trans (by subst_vars; first | rfl | (simp only [cu_mls]; done) | (simp only [cu_mls]; (repeat' split) <;> first | rfl | contradiction | simp_all))) H locs ls hN (lv_sub hl [2, 3, 0] rfl)
set_option maxHeartbeats 4000000 in
set_option maxRecDepth 100000 in
theorem ct_X4_makeLastSet (l : Launch) {D : va_G} {ca : Nat → ClassId} {B : Nat → Nat} {N n : Nat} {X : va_W} {u : ww_U} (a : Int32) (hNn : 36 + 8 * n ≤ N) (hn8 : n ≤ 8) (hc : u 29 1 = nI n) : ww_M l yX4_makeLastSet wsX4_makeLastSet ({ frames := 1, cells := 0, slots := 0, locals := 21 } : Room) D ca B N n X u [.ref (B 29), .int a] none (cu_mls n 0 a u) := by
  refine ww_met (cc := cX4_makeLastSet) (maxL := 4) (ret := none) (by decide) rfl (Nat.le_of_ble_eq_true rfl) ?_
  intro p e s m args below meth c C hN ls hl
  have hl : lv_has ls 4 [(0, .ref (B 29)), (1, .int a)] := hl
  have hx := C.1.1
  have hb := C.1.2.1
  have hNB : 36 ≤ N := by omega
  have hNN : 29 ≤ N := by omega
  refine lv_iconst (v := 0) hx hb dX4_makeLastSet_0 (by decide) ?_
  refine lv_istore_n (lv' := [(2, .int 0), (0, .ref (B 29)), (1, .int a)]) hx hb dX4_makeLastSet_1 rfl hl (by decide) rfl (fun ls hl => ?_)
  exact lp_X4_makeLastSet C hNn a hn8 n 0 0 u (by omega) hc rfl rfl rfl _ _ _ hN (lv_sub hl [1, 2, 0] rfl)
set_option maxRecDepth 20000 in
theorem kw_X4_joinSets_X4 : ww_K wsX4_joinSets RX4 TX4 8 tyX4 := ⟨by decide +kernel, tyX4_ok, nmX4⟩
set_option maxRecDepth 20000 in
theorem kw_X4_joinSets_X1 : ww_K wsX4_joinSets RX1 TX1 10 tyX1 := ⟨by decide +kernel, tyX1_ok, nmX1⟩
set_option maxRecDepth 20000 in
theorem kw_X4_joinSets_X3 : ww_K wsX4_joinSets RX3 TX3 8 tyX3 := ⟨by decide +kernel, tyX3_ok, nmX3⟩
set_option maxHeartbeats 4000000 in
set_option maxRecDepth 100000 in
theorem lp_X4_joinSets {p : Program} {l : Launch} {e : Env} {s : State} {m : MethodId} {args : Array Value} {below : List Frame} {meth : Method} {c : Code} {D : va_G} {ca : Nat → ClassId} {B : Nat → Nat} {N n : Nat} {X : va_W} (C : ww_C D ca yX4_joinSets.cls cX4_joinSets 6 wsX4_joinSets (some .int) (ww_A B N X s.heap.size) p s m args meth c) (hNn : 36 + 8 * n ≤ N) (a b : Int32) (hn8 : n ≤ 8)  {r : Option Value} {u' : ww_U} : ∀ (d k : Nat) (q : Int32) (x : Int32) (u : ww_U), k + d = n → (u 29 1 = nI n) → (x = nI k) → r = some (.int (cu_join d k a b u q).2) → u' = (cu_join d k a b u q).1 → ∀ (H : Heap) (locs : List Loc) (ls : Array Slot), ww_N D ca B N n u X (ww_A B N X s.heap.size) s.heap H locs → lv_has ls 6 [(0, .ref (B 29)), (1, .int a), (2, .int b), (3, .int q), (4, .int x)] → W p l e (headSpec wsX4_joinSets ({ frames := 1, cells := 0, slots := 0, locals := 21 } : Room)).room s m args below meth c H locs 0 0 (MQ below (ww_Q D ca B N n X s.heap.size r u') args s 0 0 (ww_A B N X s.heap.size)) (F0 m 5 ls []) := by
  have hx := C.1.1
  have hb := C.1.2.1
  have hNB : 36 ≤ N := by omega
  have hNN : 29 ≤ N := by omega
  intro d
  induction d with
  | zero =>
    intro k q x u hkd hc hxk hr hu H locs ls hN hl
    refine lv_iload hx hb dX4_joinSets_5 (lv_at hl 4 rfl) ?_
    refine lv_aload_n hx hb dX4_joinSets_7 rfl (lv_at hl 0 rfl) ?_
    refine rr_get C hN 29 (Nat.lt_of_lt_of_le (by decide) hNB) rfl rfl kw_X4_joinSets_X4 1 (by decide) (List.mem_of_getElem? (i := 1) rfl) (v := .int (u 29 1)) rfl dX4_joinSets_8 ?_
    refine lv_icmp_ge (tgt := 59) hx hb dX4_joinSets_11 (by decide) (fun c_11 => ?_) (fun c_11 => absurd c_11 (fun h => h (by rw [hc, hxk, show k = n by omega]; exact nI_le (Nat.le_refl _) (by omega))))
    refine lv_iload_n hx hb dX4_joinSets_59 rfl (lv_at hl 3 rfl) ?_
    exact rr_iret C hN dX4_joinSets_60 hr hu
  | succ d ih =>
    intro k q x u hkd hc hxk hr hu H locs ls hN hl
    have hkn : k < n := by omega
    refine lv_iload hx hb dX4_joinSets_5 (lv_at hl 4 rfl) ?_
    refine lv_aload_n hx hb dX4_joinSets_7 rfl (lv_at hl 0 rfl) ?_
    refine rr_get C hN 29 (Nat.lt_of_lt_of_le (by decide) hNB) rfl rfl kw_X4_joinSets_X4 1 (by decide) (List.mem_of_getElem? (i := 1) rfl) (v := .int (u 29 1)) rfl dX4_joinSets_8 ?_
    refine lv_icmp_ge (tgt := 59) hx hb dX4_joinSets_11 (by decide) (fun c_11 => absurd c_11 (by rw [hc, hxk]; exact nI_ge (by omega) (by omega))) (fun c_11 => ?_)
    refine lv_aload_n hx hb dX4_joinSets_14 rfl (lv_at hl 0 rfl) ?_
    refine rr_get C hN 29 (Nat.lt_of_lt_of_le (by decide) hNB) rfl rfl kw_X4_joinSets_X4 0 (by decide) (List.mem_of_getElem? (i := 2) rfl) (v := .ref (B 30)) rfl dX4_joinSets_15 ?_
    refine lv_iload hx hb dX4_joinSets_18 (lv_at hl 4 rfl) ?_
    refine rr_ald C hN 30 (Nat.lt_of_lt_of_le (by decide) hNB) 3 rfl rfl (by decide) k (by omega) hxk (v := .ref (B (kC k))) (by simp only [if_pos hkn]; rfl) dX4_joinSets_20 ?_
    refine rr_get C hN (kC k) (kC_lt hNn hkn) hC_ce rfl kw_X4_joinSets_X1 2 (by decide) (List.mem_of_getElem? (i := 3) rfl) (v := .ref (B (kP k))) rfl dX4_joinSets_21 ?_
    refine lv_astore (lv' := [(5, .ref (B (kP k))), (0, .ref (B 29)), (1, .int a), (2, .int b), (3, .int q), (4, .int x)]) hx hb dX4_joinSets_24 hl (by decide) rfl (fun ls hl => ?_)
    refine lv_aload hx hb dX4_joinSets_26 (lv_at hl 0 rfl) ?_
    refine lv_iload_n hx hb dX4_joinSets_28 rfl (lv_at hl 2 rfl) ?_
    refine rr_callV (As := [.int a]) C hN (kP k) (kP_lt hNn hkn) hP_ce rfl rfl (ct_X3_isOf l hkn a hNn) gX4_joinSets_X3_isOf rfl rfl rfl 1 (by decide +kernel) ⟨Nat.le_of_ble_eq_true rfl, Nat.le_of_ble_eq_true rfl⟩ rfl hl.1 rfl (Nat.le_of_ble_eq_true rfl) ⟨Nat.zero_le _, Nat.zero_le _⟩ dX4_joinSets_29 (fun H locs hN => ?_)
    refine lv_topi (fun vs1 evs1 => ?_)
    refine lv_if_ne (tgt := 44) hx hb dX4_joinSets_32 (by decide) (fun c_32 => ?_) (fun c_32 => ?_)
    · refine lv_aload hx hb dX4_joinSets_44 (lv_at hl 0 rfl) ?_
      refine lv_iload_n hx hb dX4_joinSets_46 rfl (lv_at hl 2 rfl) ?_
      refine rr_put C hN (kP k) (kP_lt hNn hkn) hP_ce rfl kw_X4_joinSets_X3 6 (by decide) (List.mem_of_getElem? (i := 4) rfl) rfl (x := a) rfl rfl (Nat.le_of_ble_eq_true rfl) (hP_ce.trans rfl) dX4_joinSets_47 (fun us2 eus2 H locs hN => ?_)
      obtain ⟨vs3, evs3⟩ : ∃ y : Int32, y = q + 1 := ⟨_, rfl⟩
      refine lv_iinc (v := vs3) (lv' := [(3, .int vs3), (5, .ref (B (kP k))), (0, .ref (B 29)), (1, .int a), (2, .int b), (4, .int x)]) hx hb dX4_joinSets_50 hl (k := 4) rfl (by rw [evs3]; rfl) (by decide) rfl (fun ls hl => ?_)
      obtain ⟨vs4, evs4⟩ : ∃ y : Int32, y = x + 1 := ⟨_, rfl⟩
      refine lv_iinc (v := vs4) (lv' := [(4, .int vs4), (3, .int vs3), (5, .ref (B (kP k))), (0, .ref (B 29)), (1, .int a), (2, .int b)]) hx hb dX4_joinSets_53 hl (k := 5) rfl (by rw [evs4]; rfl) (by decide) rfl (fun ls hl => ?_)
      refine lv_goto (tgt := 5) hx hb dX4_joinSets_56 (by decide) ?_
      exact ih (k + 1) vs3 vs4 us2 (by omega) (by subst_vars; first | exact hc | (rw [ww_up_ne (by simp only [kC, kP]; omega)]; exact hc) | (rw [ww_up_ne (by simp only [kC, kP]; omega), ww_up_ne (by simp only [kC, kP]; omega)]; exact hc)) (by rw [evs4, hxk]; exact nI_1 k) (hr.trans (by subst_vars; first | rfl | (simp only [cu_join]; done) | (simp only [cu_join]; (repeat' split) <;> first | rfl | contradiction | simp_all))) (hu.trans (by subst_vars; first | rfl | (simp only [cu_join]; done) | (simp only [cu_join]; (repeat' split) <;> first | rfl | contradiction | simp_all))) H locs ls hN (lv_sub hl [3, 4, 5, 1, 0] rfl)
    · refine lv_aload hx hb dX4_joinSets_35 (lv_at hl 0 rfl) ?_
      refine lv_iload_n hx hb dX4_joinSets_37 rfl (lv_at hl 3 rfl) ?_
      refine rr_callV (As := [.int b]) C hN (kP k) (kP_lt hNn hkn) hP_ce rfl rfl (ct_X3_isOf l hkn b hNn) gX4_joinSets_X3_isOf rfl rfl rfl 1 (by decide +kernel) ⟨Nat.le_of_ble_eq_true rfl, Nat.le_of_ble_eq_true rfl⟩ rfl hl.1 rfl (Nat.le_of_ble_eq_true rfl) ⟨Nat.zero_le _, Nat.zero_le _⟩ dX4_joinSets_38 (fun H locs hN => ?_)
      refine lv_topi (fun vs5 evs5 => ?_)
      refine lv_if_eq (tgt := 53) hx hb dX4_joinSets_41 (by decide) (fun c_41 => ?_) (fun c_41 => ?_)
      · obtain ⟨vs6, evs6⟩ : ∃ y : Int32, y = x + 1 := ⟨_, rfl⟩
        refine lv_iinc (v := vs6) (lv' := [(4, .int vs6), (5, .ref (B (kP k))), (0, .ref (B 29)), (1, .int a), (2, .int b), (3, .int q)]) hx hb dX4_joinSets_53 hl (k := 5) rfl (by rw [evs6]; rfl) (by decide) rfl (fun ls hl => ?_)
        refine lv_goto (tgt := 5) hx hb dX4_joinSets_56 (by decide) ?_
        exact ih (k + 1) q vs6 u (by omega) hc (by rw [evs6, hxk]; exact nI_1 k) (hr.trans (by subst_vars; first | rfl | (simp only [cu_join]; done) | (simp only [cu_join]; (repeat' split) <;> first | rfl | contradiction | simp_all))) (hu.trans (by subst_vars; first | rfl | (simp only [cu_join]; done) | (simp only [cu_join]; (repeat' split) <;> first | rfl | contradiction | simp_all))) H locs ls hN (lv_sub hl [2, 3, 4, 5, 0] rfl)
      · refine lv_aload hx hb dX4_joinSets_44 (lv_at hl 0 rfl) ?_
        refine lv_iload_n hx hb dX4_joinSets_46 rfl (lv_at hl 2 rfl) ?_
        refine rr_put C hN (kP k) (kP_lt hNn hkn) hP_ce rfl kw_X4_joinSets_X3 6 (by decide) (List.mem_of_getElem? (i := 4) rfl) rfl (x := a) rfl rfl (Nat.le_of_ble_eq_true rfl) (hP_ce.trans rfl) dX4_joinSets_47 (fun us7 eus7 H locs hN => ?_)
        obtain ⟨vs8, evs8⟩ : ∃ y : Int32, y = q + 1 := ⟨_, rfl⟩
        refine lv_iinc (v := vs8) (lv' := [(3, .int vs8), (5, .ref (B (kP k))), (0, .ref (B 29)), (1, .int a), (2, .int b), (4, .int x)]) hx hb dX4_joinSets_50 hl (k := 4) rfl (by rw [evs8]; rfl) (by decide) rfl (fun ls hl => ?_)
        obtain ⟨vs9, evs9⟩ : ∃ y : Int32, y = x + 1 := ⟨_, rfl⟩
        refine lv_iinc (v := vs9) (lv' := [(4, .int vs9), (3, .int vs8), (5, .ref (B (kP k))), (0, .ref (B 29)), (1, .int a), (2, .int b)]) hx hb dX4_joinSets_53 hl (k := 5) rfl (by rw [evs9]; rfl) (by decide) rfl (fun ls hl => ?_)
        refine lv_goto (tgt := 5) hx hb dX4_joinSets_56 (by decide) ?_
        exact ih (k + 1) vs8 vs9 us7 (by omega) (by subst_vars; first | exact hc | (rw [ww_up_ne (by simp only [kC, kP]; omega)]; exact hc) | (rw [ww_up_ne (by simp only [kC, kP]; omega), ww_up_ne (by simp only [kC, kP]; omega)]; exact hc)) (by rw [evs9, hxk]; exact nI_1 k) (hr.trans (by subst_vars; first | rfl | (simp only [cu_join]; done) | (simp only [cu_join]; (repeat' split) <;> first | rfl | contradiction | simp_all))) (hu.trans (by subst_vars; first | rfl | (simp only [cu_join]; done) | (simp only [cu_join]; (repeat' split) <;> first | rfl | contradiction | simp_all))) H locs ls hN (lv_sub hl [3, 4, 5, 1, 0] rfl)
set_option maxHeartbeats 4000000 in
set_option maxRecDepth 100000 in
theorem ct_X4_joinSets (l : Launch) {D : va_G} {ca : Nat → ClassId} {B : Nat → Nat} {N n : Nat} {X : va_W} {u : ww_U} (a b : Int32) (hNn : 36 + 8 * n ≤ N) (hn8 : n ≤ 8) (hc : u 29 1 = nI n) : ww_M l yX4_joinSets wsX4_joinSets ({ frames := 1, cells := 0, slots := 0, locals := 21 } : Room) D ca B N n X u [.ref (B 29), .int a, .int b] (some (.int (cu_join n 0 a b u 0).2)) (cu_join n 0 a b u 0).1 := by
  refine ww_met (cc := cX4_joinSets) (maxL := 6) (ret := (some .int)) (by decide) rfl (Nat.le_of_ble_eq_true rfl) ?_
  intro p e s m args below meth c C hN ls hl
  have hl : lv_has ls 6 [(0, .ref (B 29)), (1, .int a), (2, .int b)] := hl
  have hx := C.1.1
  have hb := C.1.2.1
  have hNB : 36 ≤ N := by omega
  have hNN : 29 ≤ N := by omega
  refine lv_iconst (v := 0) hx hb dX4_joinSets_0 (by decide) ?_
  refine lv_istore_n (lv' := [(3, .int 0), (0, .ref (B 29)), (1, .int a), (2, .int b)]) hx hb dX4_joinSets_1 rfl hl (by decide) rfl (fun ls hl => ?_)
  refine lv_iconst (v := 0) hx hb dX4_joinSets_2 (by decide) ?_
  refine lv_istore (lv' := [(4, .int 0), (3, .int 0), (0, .ref (B 29)), (1, .int a), (2, .int b)]) hx hb dX4_joinSets_3 hl (by decide) rfl (fun ls hl => ?_)
  exact lp_X4_joinSets C hNn a b hn8 n 0 0 0 u (by omega) hc rfl rfl rfl _ _ _ hN (lv_sub hl [2, 3, 4, 1, 0] rfl)
set_option maxRecDepth 20000 in
theorem kw_X4_cut_X4 : ww_K wsX4_cut RX4 TX4 8 tyX4 := ⟨by decide +kernel, tyX4_ok, nmX4⟩
set_option maxRecDepth 20000 in
theorem kw_X4_cut_X1 : ww_K wsX4_cut RX1 TX1 10 tyX1 := ⟨by decide +kernel, tyX1_ok, nmX1⟩
set_option maxHeartbeats 4000000 in
set_option maxRecDepth 100000 in
theorem lp_X4_cut {p : Program} {l : Launch} {e : Env} {s : State} {m : MethodId} {args : Array Value} {below : List Frame} {meth : Method} {c : Code} {D : va_G} {ca : Nat → ClassId} {B : Nat → Nat} {N n : Nat} {X : va_W} (C : ww_C D ca yX4_cut.cls cX4_cut 4 wsX4_cut (some .int) (ww_A B N X s.heap.size) p s m args meth c) (hNn : 36 + 8 * n ≤ N)  (hn8 : n ≤ 8)  {r : Option Value} {u' : ww_U} : ∀ (d k : Nat) (q : Int32) (x : Int32) (u : ww_U), k + d = n → (u 29 1 = nI n) → (x = nI k) → r = some (.int (cu_cut d k u q).2) → u' = (cu_cut d k u q).1 → ∀ (H : Heap) (locs : List Loc) (ls : Array Slot), ww_N D ca B N n u X (ww_A B N X s.heap.size) s.heap H locs → lv_has ls 4 [(0, .ref (B 29)), (1, .int q), (2, .int x)] → W p l e (headSpec wsX4_cut ({ frames := 1, cells := 0, slots := 0, locals := 20 } : Room)).room s m args below meth c H locs 0 0 (MQ below (ww_Q D ca B N n X s.heap.size r u') args s 0 0 (ww_A B N X s.heap.size)) (F0 m 4 ls []) := by
  have hx := C.1.1
  have hb := C.1.2.1
  have hNB : 36 ≤ N := by omega
  have hNN : 29 ≤ N := by omega
  intro d
  induction d with
  | zero =>
    intro k q x u hkd hc hxk hr hu H locs ls hN hl
    refine lv_iload_n hx hb dX4_cut_4 rfl (lv_at hl 2 rfl) ?_
    refine lv_aload_n hx hb dX4_cut_5 rfl (lv_at hl 0 rfl) ?_
    refine rr_get C hN 29 (Nat.lt_of_lt_of_le (by decide) hNB) rfl rfl kw_X4_cut_X4 1 (by decide) (List.mem_of_getElem? (i := 1) rfl) (v := .int (u 29 1)) rfl dX4_cut_6 ?_
    refine lv_icmp_ge (tgt := 47) hx hb dX4_cut_9 (by decide) (fun c_9 => ?_) (fun c_9 => absurd c_9 (fun h => h (by rw [hc, hxk, show k = n by omega]; exact nI_le (Nat.le_refl _) (by omega))))
    refine lv_iload_n hx hb dX4_cut_47 rfl (lv_at hl 1 rfl) ?_
    exact rr_iret C hN dX4_cut_48 hr hu
  | succ d ih =>
    intro k q x u hkd hc hxk hr hu H locs ls hN hl
    have hkn : k < n := by omega
    refine lv_iload_n hx hb dX4_cut_4 rfl (lv_at hl 2 rfl) ?_
    refine lv_aload_n hx hb dX4_cut_5 rfl (lv_at hl 0 rfl) ?_
    refine rr_get C hN 29 (Nat.lt_of_lt_of_le (by decide) hNB) rfl rfl kw_X4_cut_X4 1 (by decide) (List.mem_of_getElem? (i := 1) rfl) (v := .int (u 29 1)) rfl dX4_cut_6 ?_
    refine lv_icmp_ge (tgt := 47) hx hb dX4_cut_9 (by decide) (fun c_9 => absurd c_9 (by rw [hc, hxk]; exact nI_ge (by omega) (by omega))) (fun c_9 => ?_)
    refine lv_aload_n hx hb dX4_cut_12 rfl (lv_at hl 0 rfl) ?_
    refine rr_get C hN 29 (Nat.lt_of_lt_of_le (by decide) hNB) rfl rfl kw_X4_cut_X4 0 (by decide) (List.mem_of_getElem? (i := 2) rfl) (v := .ref (B 30)) rfl dX4_cut_13 ?_
    refine lv_iload_n hx hb dX4_cut_16 rfl (lv_at hl 2 rfl) ?_
    refine rr_ald C hN 30 (Nat.lt_of_lt_of_le (by decide) hNB) 3 rfl rfl (by decide) k (by omega) hxk (v := .ref (B (kC k))) (by simp only [if_pos hkn]; rfl) dX4_cut_17 ?_
    refine lv_astore_n (lv' := [(3, .ref (B (kC k))), (0, .ref (B 29)), (1, .int q), (2, .int x)]) hx hb dX4_cut_18 rfl hl (by decide) rfl (fun ls hl => ?_)
    refine lv_aload_n hx hb dX4_cut_19 rfl (lv_at hl 0 rfl) ?_
    refine rr_get C hN (kC k) (kC_lt hNn hkn) hC_ce rfl kw_X4_cut_X1 5 (by decide) (List.mem_of_getElem? (i := 3) rfl) (v := .int (u (kC k) 5)) rfl dX4_cut_20 ?_
    refine lv_if_ne (tgt := 29) hx hb dX4_cut_23 (by decide) (fun c_23 => ?_) (fun c_23 => ?_)
    · refine lv_aload_n hx hb dX4_cut_29 rfl (lv_at hl 0 rfl) ?_
      refine lv_iconst (v := 1) hx hb dX4_cut_30 (by decide) ?_
      refine rr_put C hN (kC k) (kC_lt hNn hkn) hC_ce rfl kw_X4_cut_X1 5 (by decide) (List.mem_of_getElem? (i := 3) rfl) rfl (x := 1) (by decide) (by decide) (Nat.le_of_ble_eq_true rfl) (hC_ce.trans rfl) dX4_cut_31 (fun us1 eus1 H locs hN => ?_)
      refine lv_aload_n hx hb dX4_cut_34 rfl (lv_at hl 0 rfl) ?_
      refine rr_get C hN (kC k) (kC_lt hNn hkn) hC_ce rfl kw_X4_cut_X1 2 (by decide) (List.mem_of_getElem? (i := 4) rfl) (v := .ref (B (kP k))) rfl dX4_cut_35 ?_
      refine rr_callV0 (As := []) C hN (kP k) (kP_lt hNn hkn) hP_ce rfl rfl (ct_X3_loseBlock l hkn hNn) gX4_cut_X3_loseBlock rfl rfl rfl 0 (by decide +kernel) ⟨Nat.le_of_ble_eq_true rfl, Nat.le_of_ble_eq_true rfl⟩ rfl hl.1 rfl (Nat.le_of_ble_eq_true rfl) ⟨Nat.zero_le _, Nat.zero_le _⟩ dX4_cut_38 (fun H locs hN => ?_)
      obtain ⟨us2, eus2⟩ : ∃ y : ww_U, y = cu_lose us1 k := ⟨_, rfl⟩
      rw [← eus2] at hN
      obtain ⟨vs3, evs3⟩ : ∃ y : Int32, y = x + 1 := ⟨_, rfl⟩
      refine lv_iinc (v := vs3) (lv' := [(2, .int vs3), (3, .ref (B (kC k))), (0, .ref (B 29)), (1, .int q)]) hx hb dX4_cut_41 hl (k := 3) rfl (by rw [evs3]; rfl) (by decide) rfl (fun ls hl => ?_)
      refine lv_goto (tgt := 4) hx hb dX4_cut_44 (by decide) ?_
      exact ih (k + 1) q vs3 us2 (by omega) (by subst_vars; rw [cu_lose_ne (by simp only [kP]; omega), ww_up_ne (by simp only [kC]; omega)]; exact hc) (by rw [evs3, hxk]; exact nI_1 k) (hr.trans (by subst_vars; first | rfl | (simp only [cu_cut]; done) | (simp only [cu_cut]; (repeat' split) <;> first | rfl | contradiction | simp_all))) (hu.trans (by subst_vars; first | rfl | (simp only [cu_cut]; done) | (simp only [cu_cut]; (repeat' split) <;> first | rfl | contradiction | simp_all))) H locs ls hN (lv_sub hl [2, 3, 0] rfl)
    · obtain ⟨vs4, evs4⟩ : ∃ y : Int32, y = q + 1 := ⟨_, rfl⟩
      refine lv_iinc (v := vs4) (lv' := [(1, .int vs4), (3, .ref (B (kC k))), (0, .ref (B 29)), (2, .int x)]) hx hb dX4_cut_26 hl (k := 2) rfl (by rw [evs4]; rfl) (by decide) rfl (fun ls hl => ?_)
      refine lv_aload_n hx hb dX4_cut_29 rfl (lv_at hl 1 rfl) ?_
      refine lv_iconst (v := 1) hx hb dX4_cut_30 (by decide) ?_
      refine rr_put C hN (kC k) (kC_lt hNn hkn) hC_ce rfl kw_X4_cut_X1 5 (by decide) (List.mem_of_getElem? (i := 3) rfl) rfl (x := 1) (by decide) (by decide) (Nat.le_of_ble_eq_true rfl) (hC_ce.trans rfl) dX4_cut_31 (fun us5 eus5 H locs hN => ?_)
      refine lv_aload_n hx hb dX4_cut_34 rfl (lv_at hl 1 rfl) ?_
      refine rr_get C hN (kC k) (kC_lt hNn hkn) hC_ce rfl kw_X4_cut_X1 2 (by decide) (List.mem_of_getElem? (i := 4) rfl) (v := .ref (B (kP k))) rfl dX4_cut_35 ?_
      refine rr_callV0 (As := []) C hN (kP k) (kP_lt hNn hkn) hP_ce rfl rfl (ct_X3_loseBlock l hkn hNn) gX4_cut_X3_loseBlock rfl rfl rfl 0 (by decide +kernel) ⟨Nat.le_of_ble_eq_true rfl, Nat.le_of_ble_eq_true rfl⟩ rfl hl.1 rfl (Nat.le_of_ble_eq_true rfl) ⟨Nat.zero_le _, Nat.zero_le _⟩ dX4_cut_38 (fun H locs hN => ?_)
      obtain ⟨us6, eus6⟩ : ∃ y : ww_U, y = cu_lose us5 k := ⟨_, rfl⟩
      rw [← eus6] at hN
      obtain ⟨vs7, evs7⟩ : ∃ y : Int32, y = x + 1 := ⟨_, rfl⟩
      refine lv_iinc (v := vs7) (lv' := [(2, .int vs7), (1, .int vs4), (3, .ref (B (kC k))), (0, .ref (B 29))]) hx hb dX4_cut_41 hl (k := 3) rfl (by rw [evs7]; rfl) (by decide) rfl (fun ls hl => ?_)
      refine lv_goto (tgt := 4) hx hb dX4_cut_44 (by decide) ?_
      exact ih (k + 1) vs4 vs7 us6 (by omega) (by subst_vars; rw [cu_lose_ne (by simp only [kP]; omega), ww_up_ne (by simp only [kC]; omega)]; exact hc) (by rw [evs7, hxk]; exact nI_1 k) (hr.trans (by subst_vars; first | rfl | (simp only [cu_cut]; done) | (simp only [cu_cut]; (repeat' split) <;> first | rfl | contradiction | simp_all))) (hu.trans (by subst_vars; first | rfl | (simp only [cu_cut]; done) | (simp only [cu_cut]; (repeat' split) <;> first | rfl | contradiction | simp_all))) H locs ls hN (lv_sub hl [3, 1, 0] rfl)
set_option maxHeartbeats 4000000 in
set_option maxRecDepth 100000 in
theorem ct_X4_cut (l : Launch) {D : va_G} {ca : Nat → ClassId} {B : Nat → Nat} {N n : Nat} {X : va_W} {u : ww_U}  (hNn : 36 + 8 * n ≤ N) (hn8 : n ≤ 8) (hc : u 29 1 = nI n) : ww_M l yX4_cut wsX4_cut ({ frames := 1, cells := 0, slots := 0, locals := 20 } : Room) D ca B N n X u [.ref (B 29)] (some (.int (cu_cut n 0 u 0).2)) (cu_cut n 0 u 0).1 := by
  refine ww_met (cc := cX4_cut) (maxL := 4) (ret := (some .int)) (by decide) rfl (Nat.le_of_ble_eq_true rfl) ?_
  intro p e s m args below meth c C hN ls hl
  have hl : lv_has ls 4 [(0, .ref (B 29))] := hl
  have hx := C.1.1
  have hb := C.1.2.1
  have hNB : 36 ≤ N := by omega
  have hNN : 29 ≤ N := by omega
  refine lv_iconst (v := 0) hx hb dX4_cut_0 (by decide) ?_
  refine lv_istore_n (lv' := [(1, .int 0), (0, .ref (B 29))]) hx hb dX4_cut_1 rfl hl (by decide) rfl (fun ls hl => ?_)
  refine lv_iconst (v := 0) hx hb dX4_cut_2 (by decide) ?_
  refine lv_istore_n (lv' := [(2, .int 0), (1, .int 0), (0, .ref (B 29))]) hx hb dX4_cut_3 rfl hl (by decide) rfl (fun ls hl => ?_)
  exact lp_X4_cut C hNn  hn8 n 0 0 0 u (by omega) hc rfl rfl rfl _ _ _ hN (lv_sub hl [2, 1, 0] rfl)
end
section
def cu_run (n : Nat) (u : ww_U) : Prop := ∀ i, i < n → ∃ b, b < 2 ∧ u (kC i) 3 = nI b
theorem cu_other_ne {u : ww_U} {i a : Nat} (h : a ≠ kC i) : cu_other u i a = u a := by unfold cu_other; rw [ww_up_ne h, ww_up_ne h]
theorem cu_other_j {u : ww_U} {i j : Nat} (h3 : j ≠ 3) (h4 : j ≠ 4) : cu_other u i (kC i) j = u (kC i) j := by unfold cu_other; rw [ww_up_nj h4, ww_up_nj h3]
theorem cu_other_3 {u : ww_U} {i : Nat} : cu_other u i (kC i) 3 = 1 - u (kC i) 3 := by unfold cu_other; rw [ww_up_nj (by decide), ww_up_self]
theorem cu_b_of {u : ww_U} {i b : Nat} (hb : b < 2) (h : u (kC i) 3 = nI b) : cu_b u i = b := by unfold cu_b; rw [h]; exact nI_clamp (by omega)
theorem cu_run_other {n k : Nat} {u : ww_U} (h : cu_run n u) (hk : k < n) : cu_run n (cu_other u k) := by
  intro i hi
  obtain ⟨b, hb, e⟩ := h i hi
  by_cases hik : i = k
  · subst hik
    exact ⟨1 - b, by omega, by rw [cu_other_3, e]; exact nI_sub1 hb⟩
  · exact ⟨b, hb, by rw [cu_other_ne (by simp only [kC]; omega)]; exact e⟩
theorem cu_run_up {n k j : Nat} {u : ww_U} {x : Int32} (h : cu_run n u) (hj : j ≠ 3) : cu_run n (ww_up u k j x) := by
  intro i hi
  obtain ⟨b, hb, e⟩ := h i hi
  refine ⟨b, hb, ?_⟩
  by_cases hk : kC i = k
  · subst hk
    rw [ww_up_nj hj.symm]; exact e
  · rw [ww_up_ne hk]; exact e

set_option maxRecDepth 20000 in
theorem kw_X4_joint_X4 : ww_K wsX4_joint RX4 TX4 8 tyX4 := ⟨by decide +kernel, tyX4_ok, nmX4⟩
set_option maxRecDepth 20000 in
theorem kw_X4_joint_X0 : ww_K wsX4_joint RX0 TX0 3 tyX0 := ⟨by decide +kernel, tyX0_ok, nmX0⟩
set_option maxRecDepth 20000 in
theorem kw_X4_joint_X1 : ww_K wsX4_joint RX1 TX1 10 tyX1 := ⟨by decide +kernel, tyX1_ok, nmX1⟩
set_option maxHeartbeats 4000000 in
set_option maxRecDepth 100000 in
theorem lp_X4_joint {p : Program} {l : Launch} {e : Env} {s : State} {m : MethodId} {args : Array Value} {below : List Frame} {meth : Method} {c : Code} {D : va_G} {ca : Nat → ClassId} {B : Nat → Nat} {N n : Nat} {X : va_W} (C : ww_C D ca yX4_joint.cls cX4_joint 3 wsX4_joint (some .int) (ww_A B N X s.heap.size) p s m args meth c) (hNn : 36 + 8 * n ≤ N)  (hn8 : n ≤ 8)  {r : Option Value} {u' : ww_U} : ∀ (d k : Nat) (x : Int32) (u : ww_U), k + d = n → (u 29 1 = nI n) → (x = nI k) → (cu_run n u) → r = some (.int (cu_jt d k u)) → u' = u → ∀ (H : Heap) (locs : List Loc) (ls : Array Slot), ww_N D ca B N n u X (ww_A B N X s.heap.size) s.heap H locs → lv_has ls 3 [(0, .ref (B 29)), (1, .int x)] → W p l e (headSpec wsX4_joint ({ frames := 2, cells := 0, slots := 0, locals := 41 } : Room)).room s m args below meth c H locs 0 0 (MQ below (ww_Q D ca B N n X s.heap.size r u') args s 0 0 (ww_A B N X s.heap.size)) (F0 m 11 ls []) := by
  have hx := C.1.1
  have hb := C.1.2.1
  have hNB : 36 ≤ N := by omega
  have hNN : 29 ≤ N := by omega
  intro d
  induction d with
  | zero =>
    intro k x u hkd hc hxk hrun hr hu H locs ls hN hl
    refine lv_iload_n hx hb dX4_joint_11 rfl (lv_at hl 1 rfl) ?_
    refine lv_aload_n hx hb dX4_joint_12 rfl (lv_at hl 0 rfl) ?_
    refine rr_get C hN 29 (Nat.lt_of_lt_of_le (by decide) hNB) rfl rfl kw_X4_joint_X4 1 (by decide) (List.mem_of_getElem? (i := 1) rfl) (v := .int (u 29 1)) rfl dX4_joint_13 ?_
    refine lv_icmp_ge (tgt := 55) hx hb dX4_joint_16 (by decide) (fun c_16 => ?_) (fun c_16 => absurd c_16 (fun h => h (by rw [hc, hxk, show k = n by omega]; exact nI_le (Nat.le_refl _) (by omega))))
    refine lv_iconst (v := 1) hx hb dX4_joint_55 (by decide) ?_
    exact rr_iret C hN dX4_joint_56 hr hu
  | succ d ih =>
    intro k x u hkd hc hxk hrun hr hu H locs ls hN hl
    have hkn : k < n := by omega
    obtain ⟨b, hb2, hbe⟩ := hrun k hkn
    have hcb : cu_b u k = b := cu_b_of hb2 hbe
    refine lv_iload_n hx hb dX4_joint_11 rfl (lv_at hl 1 rfl) ?_
    refine lv_aload_n hx hb dX4_joint_12 rfl (lv_at hl 0 rfl) ?_
    refine rr_get C hN 29 (Nat.lt_of_lt_of_le (by decide) hNB) rfl rfl kw_X4_joint_X4 1 (by decide) (List.mem_of_getElem? (i := 1) rfl) (v := .int (u 29 1)) rfl dX4_joint_13 ?_
    refine lv_icmp_ge (tgt := 55) hx hb dX4_joint_16 (by decide) (fun c_16 => absurd c_16 (by rw [hc, hxk]; exact nI_ge (by omega) (by omega))) (fun c_16 => ?_)
    refine lv_aload_n hx hb dX4_joint_19 rfl (lv_at hl 0 rfl) ?_
    refine rr_get C hN 29 (Nat.lt_of_lt_of_le (by decide) hNB) rfl rfl kw_X4_joint_X4 0 (by decide) (List.mem_of_getElem? (i := 2) rfl) (v := .ref (B 30)) rfl dX4_joint_20 ?_
    refine lv_iload_n hx hb dX4_joint_23 rfl (lv_at hl 1 rfl) ?_
    refine rr_ald C hN 30 (Nat.lt_of_lt_of_le (by decide) hNB) 3 rfl rfl (by decide) k (by omega) hxk (v := .ref (B (kC k))) (by simp only [if_pos hkn]; rfl) dX4_joint_24 ?_
    refine lv_astore_n (lv' := [(2, .ref (B (kC k))), (0, .ref (B 29)), (1, .int x)]) hx hb dX4_joint_25 rfl hl (by decide) rfl (fun ls hl => ?_)
    refine lv_aload_n hx hb dX4_joint_26 rfl (lv_at hl 0 rfl) ?_
    refine rr_callV (As := []) C hN (kC k) (kC_lt hNn hkn) hC_ce rfl rfl (ct_X1_isOfLastSet l hkn hNn) gX4_joint_X1_isOfLastSet rfl rfl rfl 0 (by decide +kernel) ⟨Nat.le_of_ble_eq_true rfl, Nat.le_of_ble_eq_true rfl⟩ rfl hl.1 rfl (Nat.le_of_ble_eq_true rfl) ⟨Nat.zero_le _, Nat.zero_le _⟩ dX4_joint_27 (fun H locs hN => ?_)
    refine lv_topi (fun vs1 evs1 => ?_)
    refine lv_if_eq (tgt := 49) hx hb dX4_joint_30 (by decide) (fun c_30 => ?_) (fun c_30 => ?_)
    · obtain ⟨vs2, evs2⟩ : ∃ y : Int32, y = x + 1 := ⟨_, rfl⟩
      refine lv_iinc (v := vs2) (lv' := [(1, .int vs2), (2, .ref (B (kC k))), (0, .ref (B 29))]) hx hb dX4_joint_49 hl (k := 2) rfl (by rw [evs2]; rfl) (by decide) rfl (fun ls hl => ?_)
      refine lv_goto (tgt := 11) hx hb dX4_joint_52 (by decide) ?_
      exact ih (k + 1) vs2 u (by omega) hc (by rw [evs2, hxk]; exact nI_1 k) hrun (hr.trans (by subst_vars; first | rfl | (simp only [cu_jt]; done) | (simp only [cu_jt]; (repeat' split) <;> first | rfl | contradiction | simp_all))) (hu.trans (by subst_vars; first | rfl | (simp only [cu_jt]; done) | (simp only [cu_jt]; (repeat' split) <;> first | rfl | contradiction | simp_all))) H locs ls hN (lv_sub hl [2, 0] rfl)
    · refine lv_aload_n hx hb dX4_joint_33 rfl (lv_at hl 0 rfl) ?_
      refine rr_callV (As := []) C hN (kC k) (kC_lt hNn hkn) hC_ce rfl rfl (ct_X1_runningBank l hkn hb2 hbe hNn) gX4_joint_X1_runningBank rfl rfl rfl 0 (by decide +kernel) ⟨Nat.le_of_ble_eq_true rfl, Nat.le_of_ble_eq_true rfl⟩ rfl hl.1 rfl (Nat.le_of_ble_eq_true rfl) ⟨Nat.zero_le _, Nat.zero_le _⟩ dX4_joint_34 (fun H locs hN => ?_)
      refine rr_get C hN (kB k b) (kB_lt hNn hkn hb2) (hB_ce hb2) rfl kw_X4_joint_X0 2 (by decide) (List.mem_of_getElem? (i := 3) rfl) (v := .int (u (kB k b) 2)) rfl dX4_joint_37 ?_
      refine lv_aload_n hx hb dX4_joint_40 rfl (lv_at hl 0 rfl) ?_
      refine rr_get C hN (kC k) (kC_lt hNn hkn) hC_ce rfl kw_X4_joint_X1 9 (by decide) (List.mem_of_getElem? (i := 4) rfl) (v := .int (u (kC k) 9)) rfl dX4_joint_41 ?_
      refine lv_icmp_eq (tgt := 49) hx hb dX4_joint_44 (by decide) (fun c_44 => ?_) (fun c_44 => ?_)
      · obtain ⟨vs3, evs3⟩ : ∃ y : Int32, y = x + 1 := ⟨_, rfl⟩
        refine lv_iinc (v := vs3) (lv' := [(1, .int vs3), (2, .ref (B (kC k))), (0, .ref (B 29))]) hx hb dX4_joint_49 hl (k := 2) rfl (by rw [evs3]; rfl) (by decide) rfl (fun ls hl => ?_)
        refine lv_goto (tgt := 11) hx hb dX4_joint_52 (by decide) ?_
        exact ih (k + 1) vs3 u (by omega) hc (by rw [evs3, hxk]; exact nI_1 k) hrun (hr.trans (by subst_vars; first | rfl | (simp only [cu_jt]; done) | (simp only [cu_jt]; (repeat' split) <;> first | rfl | contradiction | simp_all))) (hu.trans (by subst_vars; first | rfl | (simp only [cu_jt]; done) | (simp only [cu_jt]; (repeat' split) <;> first | rfl | contradiction | simp_all))) H locs ls hN (lv_sub hl [2, 0] rfl)
      · refine lv_iconst (v := 0) hx hb dX4_joint_47 (by decide) ?_
        exact rr_iret C hN dX4_joint_48 (hr.trans (by subst_vars; first | rfl | (simp only [cu_jt]; done) | (simp only [cu_jt]; (repeat' split) <;> first | rfl | contradiction | simp_all))) hu
def cu_joint (n : Nat) (u : ww_U) : Int32 := if cu_has n 0 u = 0 then 0 else cu_jt n 0 u
def cu_rollback (n : Nat) (u : ww_U) : ww_U × Int32 := if cu_has n 0 u = 0 then (u, 0) else if cu_may n 0 u = 0 then (u, 0) else (cu_rb n 0 u, 1)
set_option maxHeartbeats 4000000 in
set_option maxRecDepth 100000 in
theorem ct_X4_joint (l : Launch) {D : va_G} {ca : Nat → ClassId} {B : Nat → Nat} {N n : Nat} {X : va_W} {u : ww_U}  (hNn : 36 + 8 * n ≤ N) (hn8 : n ≤ 8) (hc : u 29 1 = nI n) (hrun : cu_run n u) : ww_M l yX4_joint wsX4_joint ({ frames := 2, cells := 0, slots := 0, locals := 41 } : Room) D ca B N n X u [.ref (B 29)] (some (.int (cu_joint n u))) u := by
  refine ww_met (cc := cX4_joint) (maxL := 3) (ret := (some .int)) (by decide) rfl (Nat.le_of_ble_eq_true rfl) ?_
  intro p e s m args below meth c C hN ls hl
  have hl : lv_has ls 3 [(0, .ref (B 29))] := hl
  have hx := C.1.1
  have hb := C.1.2.1
  have hNB : 36 ≤ N := by omega
  have hNN : 29 ≤ N := by omega
  refine lv_aload_n hx hb dX4_joint_0 rfl (lv_at hl 0 rfl) ?_
  refine rr_callV (As := []) C hN 29 (Nat.lt_of_lt_of_le (by decide) hNB) rfl rfl rfl (ct_X4_hasLastSet l hNn hn8 hc) gX4_joint_X4_hasLastSet rfl rfl rfl 0 (by decide +kernel) ⟨Nat.le_of_ble_eq_true rfl, Nat.le_of_ble_eq_true rfl⟩ rfl hl.1 rfl (Nat.le_of_ble_eq_true rfl) ⟨Nat.zero_le _, Nat.zero_le _⟩ dX4_joint_1 (fun H locs hN => ?_)
  refine lv_topi (fun v1 ev1 => ?_)
  refine lv_if_ne (tgt := 9) hx hb dX4_joint_4 (by decide) (fun c_4 => ?_) (fun c_4 => ?_)
  · refine lv_iconst (v := 0) hx hb dX4_joint_9 (by decide) ?_
    refine lv_istore_n (lv' := [(1, .int 0), (0, .ref (B 29))]) hx hb dX4_joint_10 rfl hl (by decide) rfl (fun ls hl => ?_)
    exact lp_X4_joint C hNn  hn8 n 0 0 u (by omega) hc rfl hrun (by subst_vars; first | rfl | (simp only [cu_joint]; done) | (simp only [cu_joint]; (repeat' split) <;> first | rfl | contradiction | simp_all)) rfl _ _ _ hN (lv_sub hl [1, 0] rfl)
  · refine lv_iconst (v := 0) hx hb dX4_joint_7 (by decide) ?_
    exact rr_iret C hN dX4_joint_8 (by subst_vars; first | rfl | (simp only [cu_joint]; done) | (simp only [cu_joint]; (repeat' split) <;> first | rfl | contradiction | simp_all)) rfl
set_option maxRecDepth 20000 in
theorem kw_X4_rollback_X4 : ww_K wsX4_rollback RX4 TX4 8 tyX4 := ⟨by decide +kernel, tyX4_ok, nmX4⟩
set_option maxRecDepth 20000 in
theorem kw_X4_rollback_X1 : ww_K wsX4_rollback RX1 TX1 10 tyX1 := ⟨by decide +kernel, tyX1_ok, nmX1⟩
set_option maxHeartbeats 4000000 in
set_option maxRecDepth 100000 in
theorem lp_X4_rollback {p : Program} {l : Launch} {e : Env} {s : State} {m : MethodId} {args : Array Value} {below : List Frame} {meth : Method} {c : Code} {D : va_G} {ca : Nat → ClassId} {B : Nat → Nat} {N n : Nat} {X : va_W} (C : ww_C D ca yX4_rollback.cls cX4_rollback 3 wsX4_rollback (some .int) (ww_A B N X s.heap.size) p s m args meth c) (hNn : 36 + 8 * n ≤ N)  (hn8 : n ≤ 8)  {r : Option Value} {u' : ww_U} : ∀ (d k : Nat) (x : Int32) (u : ww_U), k + d = n → (u 29 1 = nI n) → (x = nI k) → (cu_run n u) → r = some (.int 1) → u' = cu_rb d k u → ∀ (H : Heap) (locs : List Loc) (ls : Array Slot), ww_N D ca B N n u X (ww_A B N X s.heap.size) s.heap H locs → lv_has ls 3 [(0, .ref (B 29)), (1, .int x)] → W p l e (headSpec wsX4_rollback ({ frames := 2, cells := 0, slots := 0, locals := 42 } : Room)).room s m args below meth c H locs 0 0 (MQ below (ww_Q D ca B N n X s.heap.size r u') args s 0 0 (ww_A B N X s.heap.size)) (F0 m 18 ls []) := by
  have hx := C.1.1
  have hb := C.1.2.1
  have hNB : 36 ≤ N := by omega
  have hNN : 29 ≤ N := by omega
  intro d
  induction d with
  | zero =>
    intro k x u hkd hc hxk hrun hr hu H locs ls hN hl
    refine lv_iload_n hx hb dX4_rollback_18 rfl (lv_at hl 1 rfl) ?_
    refine lv_aload_n hx hb dX4_rollback_19 rfl (lv_at hl 0 rfl) ?_
    refine rr_get C hN 29 (Nat.lt_of_lt_of_le (by decide) hNB) rfl rfl kw_X4_rollback_X4 1 (by decide) (List.mem_of_getElem? (i := 1) rfl) (v := .int (u 29 1)) rfl dX4_rollback_20 ?_
    refine lv_icmp_ge (tgt := 55) hx hb dX4_rollback_23 (by decide) (fun c_23 => ?_) (fun c_23 => absurd c_23 (fun h => h (by rw [hc, hxk, show k = n by omega]; exact nI_le (Nat.le_refl _) (by omega))))
    refine lv_iconst (v := 1) hx hb dX4_rollback_55 (by decide) ?_
    exact rr_iret C hN dX4_rollback_56 hr hu
  | succ d ih =>
    intro k x u hkd hc hxk hrun hr hu H locs ls hN hl
    have hkn : k < n := by omega
    obtain ⟨b, hb2, hbe⟩ := hrun k hkn
    have hcb : cu_b u k = b := cu_b_of hb2 hbe
    refine lv_iload_n hx hb dX4_rollback_18 rfl (lv_at hl 1 rfl) ?_
    refine lv_aload_n hx hb dX4_rollback_19 rfl (lv_at hl 0 rfl) ?_
    refine rr_get C hN 29 (Nat.lt_of_lt_of_le (by decide) hNB) rfl rfl kw_X4_rollback_X4 1 (by decide) (List.mem_of_getElem? (i := 1) rfl) (v := .int (u 29 1)) rfl dX4_rollback_20 ?_
    refine lv_icmp_ge (tgt := 55) hx hb dX4_rollback_23 (by decide) (fun c_23 => absurd c_23 (by rw [hc, hxk]; exact nI_ge (by omega) (by omega))) (fun c_23 => ?_)
    refine lv_aload_n hx hb dX4_rollback_26 rfl (lv_at hl 0 rfl) ?_
    refine rr_get C hN 29 (Nat.lt_of_lt_of_le (by decide) hNB) rfl rfl kw_X4_rollback_X4 0 (by decide) (List.mem_of_getElem? (i := 2) rfl) (v := .ref (B 30)) rfl dX4_rollback_27 ?_
    refine lv_iload_n hx hb dX4_rollback_30 rfl (lv_at hl 1 rfl) ?_
    refine rr_ald C hN 30 (Nat.lt_of_lt_of_le (by decide) hNB) 3 rfl rfl (by decide) k (by omega) hxk (v := .ref (B (kC k))) (by simp only [if_pos hkn]; rfl) dX4_rollback_31 ?_
    refine lv_astore_n (lv' := [(2, .ref (B (kC k))), (0, .ref (B 29)), (1, .int x)]) hx hb dX4_rollback_32 rfl hl (by decide) rfl (fun ls hl => ?_)
    refine lv_aload_n hx hb dX4_rollback_33 rfl (lv_at hl 0 rfl) ?_
    refine rr_callV (As := []) C hN (kC k) (kC_lt hNn hkn) hC_ce rfl rfl (ct_X1_isOfLastSet l hkn hNn) gX4_rollback_X1_isOfLastSet rfl rfl rfl 0 (by decide +kernel) ⟨Nat.le_of_ble_eq_true rfl, Nat.le_of_ble_eq_true rfl⟩ rfl hl.1 rfl (Nat.le_of_ble_eq_true rfl) ⟨Nat.zero_le _, Nat.zero_le _⟩ dX4_rollback_34 (fun H locs hN => ?_)
    refine lv_topi (fun vs1 evs1 => ?_)
    refine lv_if_eq (tgt := 49) hx hb dX4_rollback_37 (by decide) (fun c_37 => ?_) (fun c_37 => ?_)
    · obtain ⟨vs2, evs2⟩ : ∃ y : Int32, y = x + 1 := ⟨_, rfl⟩
      refine lv_iinc (v := vs2) (lv' := [(1, .int vs2), (2, .ref (B (kC k))), (0, .ref (B 29))]) hx hb dX4_rollback_49 hl (k := 2) rfl (by rw [evs2]; rfl) (by decide) rfl (fun ls hl => ?_)
      refine lv_goto (tgt := 18) hx hb dX4_rollback_52 (by decide) ?_
      exact ih (k + 1) vs2 u (by omega) hc (by rw [evs2, hxk]; exact nI_1 k) hrun (hr.trans (by subst_vars; first | rfl | (simp only [cu_rb]; done) | (simp only [cu_rb]; (repeat' split) <;> first | rfl | contradiction | simp_all))) (hu.trans (by subst_vars; first | rfl | (simp only [cu_rb]; done) | (simp only [cu_rb]; (repeat' split) <;> first | rfl | contradiction | simp_all))) H locs ls hN (lv_sub hl [2, 0] rfl)
    · refine lv_aload_n hx hb dX4_rollback_40 rfl (lv_at hl 0 rfl) ?_
      refine rr_callV0 (As := []) C hN (kC k) (kC_lt hNn hkn) hC_ce rfl rfl (ct_X1_runOtherBank l hkn hb2 hbe hNn) gX4_rollback_X1_runOtherBank rfl rfl rfl 0 (by decide +kernel) ⟨Nat.le_of_ble_eq_true rfl, Nat.le_of_ble_eq_true rfl⟩ rfl hl.1 rfl (Nat.le_of_ble_eq_true rfl) ⟨Nat.zero_le _, Nat.zero_le _⟩ dX4_rollback_41 (fun H locs hN => ?_)
      obtain ⟨us3, eus3⟩ : ∃ y : ww_U, y = cu_other u k := ⟨_, rfl⟩
      rw [← eus3] at hN
      refine lv_aload_n hx hb dX4_rollback_44 rfl (lv_at hl 0 rfl) ?_
      refine lv_iconst (v := 0) hx hb dX4_rollback_45 (by decide) ?_
      refine rr_put C hN (kC k) (kC_lt hNn hkn) hC_ce rfl kw_X4_rollback_X1 9 (by decide) (List.mem_of_getElem? (i := 3) rfl) rfl (x := 0) rfl rfl (Nat.le_of_ble_eq_true rfl) (hC_ce.trans rfl) dX4_rollback_46 (fun us4 eus4 H locs hN => ?_)
      obtain ⟨vs5, evs5⟩ : ∃ y : Int32, y = x + 1 := ⟨_, rfl⟩
      refine lv_iinc (v := vs5) (lv' := [(1, .int vs5), (2, .ref (B (kC k))), (0, .ref (B 29))]) hx hb dX4_rollback_49 hl (k := 2) rfl (by rw [evs5]; rfl) (by decide) rfl (fun ls hl => ?_)
      refine lv_goto (tgt := 18) hx hb dX4_rollback_52 (by decide) ?_
      exact ih (k + 1) vs5 us4 (by omega) (by subst_vars; rw [ww_up_ne (by simp only [kC]; omega), cu_other_ne (by simp only [kC]; omega)]; exact hc) (by rw [evs5, hxk]; exact nI_1 k) (by subst_vars; exact cu_run_up (cu_run_other hrun hkn) (by decide)) (hr.trans (by subst_vars; first | rfl | (simp only [cu_rb]; done) | (simp only [cu_rb]; (repeat' split) <;> first | rfl | contradiction | simp_all))) (hu.trans (by subst_vars; first | rfl | (simp only [cu_rb]; done) | (simp only [cu_rb]; (repeat' split) <;> first | rfl | contradiction | simp_all))) H locs ls hN (lv_sub hl [2, 0] rfl)
set_option maxHeartbeats 4000000 in
set_option maxRecDepth 100000 in
theorem ct_X4_rollback (l : Launch) {D : va_G} {ca : Nat → ClassId} {B : Nat → Nat} {N n : Nat} {X : va_W} {u : ww_U}  (hNn : 36 + 8 * n ≤ N) (hn8 : n ≤ 8) (hc : u 29 1 = nI n) (hrun : cu_run n u) : ww_M l yX4_rollback wsX4_rollback ({ frames := 2, cells := 0, slots := 0, locals := 42 } : Room) D ca B N n X u [.ref (B 29)] (some (.int (cu_rollback n u).2)) (cu_rollback n u).1 := by
  refine ww_met (cc := cX4_rollback) (maxL := 3) (ret := (some .int)) (by decide) rfl (Nat.le_of_ble_eq_true rfl) ?_
  intro p e s m args below meth c C hN ls hl
  have hl : lv_has ls 3 [(0, .ref (B 29))] := hl
  have hx := C.1.1
  have hb := C.1.2.1
  have hNB : 36 ≤ N := by omega
  have hNN : 29 ≤ N := by omega
  refine lv_aload_n hx hb dX4_rollback_0 rfl (lv_at hl 0 rfl) ?_
  refine rr_callV (As := []) C hN 29 (Nat.lt_of_lt_of_le (by decide) hNB) rfl rfl rfl (ct_X4_hasLastSet l hNn hn8 hc) gX4_rollback_X4_hasLastSet rfl rfl rfl 0 (by decide +kernel) ⟨Nat.le_of_ble_eq_true rfl, Nat.le_of_ble_eq_true rfl⟩ rfl hl.1 rfl (Nat.le_of_ble_eq_true rfl) ⟨Nat.zero_le _, Nat.zero_le _⟩ dX4_rollback_1 (fun H locs hN => ?_)
  refine lv_topi (fun v1 ev1 => ?_)
  refine lv_if_eq (tgt := 14) hx hb dX4_rollback_4 (by decide) (fun c_4 => ?_) (fun c_4 => ?_)
  · refine lv_iconst (v := 0) hx hb dX4_rollback_14 (by decide) ?_
    exact rr_iret C hN dX4_rollback_15 (by subst_vars; first | rfl | (simp only [cu_rollback]; done) | (simp only [cu_rollback]; (repeat' split) <;> first | rfl | contradiction | simp_all)) (by subst_vars; first | rfl | (simp only [cu_rollback]; done) | (simp only [cu_rollback]; (repeat' split) <;> first | rfl | contradiction | simp_all))
  · refine lv_aload_n hx hb dX4_rollback_7 rfl (lv_at hl 0 rfl) ?_
    refine rr_callV (As := []) C hN 29 (Nat.lt_of_lt_of_le (by decide) hNB) rfl rfl rfl (ct_X4_lastSetMayGoBack l hNn hn8 hc) gX4_rollback_X4_lastSetMayGoBack rfl rfl rfl 0 (by decide +kernel) ⟨Nat.le_of_ble_eq_true rfl, Nat.le_of_ble_eq_true rfl⟩ rfl hl.1 rfl (Nat.le_of_ble_eq_true rfl) ⟨Nat.zero_le _, Nat.zero_le _⟩ dX4_rollback_8 (fun H locs hN => ?_)
    refine lv_topi (fun v2 ev2 => ?_)
    refine lv_if_ne (tgt := 16) hx hb dX4_rollback_11 (by decide) (fun c_11 => ?_) (fun c_11 => ?_)
    · refine lv_iconst (v := 0) hx hb dX4_rollback_16 (by decide) ?_
      refine lv_istore_n (lv' := [(1, .int 0), (0, .ref (B 29))]) hx hb dX4_rollback_17 rfl hl (by decide) rfl (fun ls hl => ?_)
      exact lp_X4_rollback C hNn  hn8 n 0 0 u (by omega) hc rfl hrun (by subst_vars; first | rfl | (simp only [cu_rollback]; done) | (simp only [cu_rollback]; (repeat' split) <;> first | rfl | contradiction | simp_all)) (by subst_vars; first | rfl | (simp only [cu_rollback]; done) | (simp only [cu_rollback]; (repeat' split) <;> first | rfl | contradiction | simp_all)) _ _ _ hN (lv_sub hl [1, 0] rfl)
    · refine lv_iconst (v := 0) hx hb dX4_rollback_14 (by decide) ?_
      exact rr_iret C hN dX4_rollback_15 (by subst_vars; first | rfl | (simp only [cu_rollback]; done) | (simp only [cu_rollback]; (repeat' split) <;> first | rfl | contradiction | simp_all)) (by subst_vars; first | rfl | (simp only [cu_rollback]; done) | (simp only [cu_rollback]; (repeat' split) <;> first | rfl | contradiction | simp_all))
set_option maxRecDepth 20000 in
theorem kw_X4_findOpen_X4 : ww_K wsX4_findOpen RX4 TX4 8 tyX4 := ⟨by decide +kernel, tyX4_ok, nmX4⟩
set_option maxRecDepth 20000 in
theorem kw_X4_findOpen_X1 : ww_K wsX4_findOpen RX1 TX1 10 tyX1 := ⟨by decide +kernel, tyX1_ok, nmX1⟩
set_option maxRecDepth 20000 in
theorem kw_X4_findOpen_X3 : ww_K wsX4_findOpen RX3 TX3 8 tyX3 := ⟨by decide +kernel, tyX3_ok, nmX3⟩
set_option maxHeartbeats 4000000 in
set_option maxRecDepth 100000 in
theorem lp_X4_findOpen {p : Program} {l : Launch} {e : Env} {s : State} {m : MethodId} {args : Array Value} {below : List Frame} {meth : Method} {c : Code} {D : va_G} {ca : Nat → ClassId} {B : Nat → Nat} {N n : Nat} {X : va_W} (C : ww_C D ca yX4_findOpen.cls cX4_findOpen 4 wsX4_findOpen (some (.object "UpdatePacks$Pack")) (ww_A B N X s.heap.size) p s m args meth c) (hNn : 36 + 8 * n ≤ N) (a : Int32) (hn8 : n ≤ 8)  {r : Option Value} {u' : ww_U} : ∀ (d k : Nat) (x : Int32) (u : ww_U), k + d = n → (u 29 1 = nI n) → (x = nI k) → r = some (va_rf ((cu_fo d k a u).map (fun j => B (kP j)))) → u' = u → ∀ (H : Heap) (locs : List Loc) (ls : Array Slot), ww_N D ca B N n u X (ww_A B N X s.heap.size) s.heap H locs → lv_has ls 4 [(0, .ref (B 29)), (1, .int a), (2, .int x)] → W p l e (headSpec wsX4_findOpen ({ frames := 0, cells := 0, slots := 0, locals := 0 } : Room)).room s m args below meth c H locs 0 0 (MQ below (ww_Q D ca B N n X s.heap.size r u') args s 0 0 (ww_A B N X s.heap.size)) (F0 m 2 ls []) := by
  have hx := C.1.1
  have hb := C.1.2.1
  have hNB : 36 ≤ N := by omega
  have hNN : 29 ≤ N := by omega
  intro d
  induction d with
  | zero =>
    intro k x u hkd hc hxk hr hu H locs ls hN hl
    refine lv_iload_n hx hb dX4_findOpen_2 rfl (lv_at hl 2 rfl) ?_
    refine lv_aload_n hx hb dX4_findOpen_3 rfl (lv_at hl 0 rfl) ?_
    refine rr_get C hN 29 (Nat.lt_of_lt_of_le (by decide) hNB) rfl rfl kw_X4_findOpen_X4 1 (by decide) (List.mem_of_getElem? (i := 1) rfl) (v := .int (u 29 1)) rfl dX4_findOpen_4 ?_
    refine lv_icmp_ge (tgt := 43) hx hb dX4_findOpen_7 (by decide) (fun c_7 => ?_) (fun c_7 => absurd c_7 (fun h => h (by rw [hc, hxk, show k = n by omega]; exact nI_le (Nat.le_refl _) (by omega))))
    refine lv_null hx hb dX4_findOpen_43 ?_
    exact rr_aret C hN dX4_findOpen_44 (Or.inl rfl) hr hu
  | succ d ih =>
    intro k x u hkd hc hxk hr hu H locs ls hN hl
    have hkn : k < n := by omega
    refine lv_iload_n hx hb dX4_findOpen_2 rfl (lv_at hl 2 rfl) ?_
    refine lv_aload_n hx hb dX4_findOpen_3 rfl (lv_at hl 0 rfl) ?_
    refine rr_get C hN 29 (Nat.lt_of_lt_of_le (by decide) hNB) rfl rfl kw_X4_findOpen_X4 1 (by decide) (List.mem_of_getElem? (i := 1) rfl) (v := .int (u 29 1)) rfl dX4_findOpen_4 ?_
    refine lv_icmp_ge (tgt := 43) hx hb dX4_findOpen_7 (by decide) (fun c_7 => absurd c_7 (by rw [hc, hxk]; exact nI_ge (by omega) (by omega))) (fun c_7 => ?_)
    refine lv_aload_n hx hb dX4_findOpen_10 rfl (lv_at hl 0 rfl) ?_
    refine rr_get C hN 29 (Nat.lt_of_lt_of_le (by decide) hNB) rfl rfl kw_X4_findOpen_X4 0 (by decide) (List.mem_of_getElem? (i := 2) rfl) (v := .ref (B 30)) rfl dX4_findOpen_11 ?_
    refine lv_iload_n hx hb dX4_findOpen_14 rfl (lv_at hl 2 rfl) ?_
    refine rr_ald C hN 30 (Nat.lt_of_lt_of_le (by decide) hNB) 3 rfl rfl (by decide) k (by omega) hxk (v := .ref (B (kC k))) (by simp only [if_pos hkn]; rfl) dX4_findOpen_15 ?_
    refine rr_get C hN (kC k) (kC_lt hNn hkn) hC_ce rfl kw_X4_findOpen_X1 2 (by decide) (List.mem_of_getElem? (i := 3) rfl) (v := .ref (B (kP k))) rfl dX4_findOpen_16 ?_
    refine lv_astore_n (lv' := [(3, .ref (B (kP k))), (0, .ref (B 29)), (1, .int a), (2, .int x)]) hx hb dX4_findOpen_19 rfl hl (by decide) rfl (fun ls hl => ?_)
    refine lv_aload_n hx hb dX4_findOpen_20 rfl (lv_at hl 0 rfl) ?_
    refine rr_get C hN (kP k) (kP_lt hNn hkn) hP_ce rfl kw_X4_findOpen_X3 4 (by decide) (List.mem_of_getElem? (i := 4) rfl) (v := .int (u (kP k) 4)) rfl dX4_findOpen_21 ?_
    refine lv_if_eq (tgt := 37) hx hb dX4_findOpen_24 (by decide) (fun c_24 => ?_) (fun c_24 => ?_)
    · obtain ⟨vs1, evs1⟩ : ∃ y : Int32, y = x + 1 := ⟨_, rfl⟩
      refine lv_iinc (v := vs1) (lv' := [(2, .int vs1), (3, .ref (B (kP k))), (0, .ref (B 29)), (1, .int a)]) hx hb dX4_findOpen_37 hl (k := 3) rfl (by rw [evs1]; rfl) (by decide) rfl (fun ls hl => ?_)
      refine lv_goto (tgt := 2) hx hb dX4_findOpen_40 (by decide) ?_
      exact ih (k + 1) vs1 u (by omega) hc (by rw [evs1, hxk]; exact nI_1 k) (hr.trans (by subst_vars; first | rfl | (simp only [cu_fo]; done) | (simp only [cu_fo]; (repeat' split) <;> first | rfl | contradiction | simp_all))) (hu.trans (by subst_vars; first | rfl | (simp only [cu_fo]; done) | (simp only [cu_fo]; (repeat' split) <;> first | rfl | contradiction | simp_all))) H locs ls hN (lv_sub hl [2, 3, 0] rfl)
    · refine lv_aload_n hx hb dX4_findOpen_27 rfl (lv_at hl 0 rfl) ?_
      refine rr_get C hN (kP k) (kP_lt hNn hkn) hP_ce rfl kw_X4_findOpen_X3 2 (by decide) (List.mem_of_getElem? (i := 5) rfl) (v := .int (u (kP k) 2)) rfl dX4_findOpen_28 ?_
      refine lv_iload_n hx hb dX4_findOpen_31 rfl (lv_at hl 2 rfl) ?_
      refine lv_icmp_ne (tgt := 37) hx hb dX4_findOpen_32 (by decide) (fun c_32 => ?_) (fun c_32 => ?_)
      · obtain ⟨vs2, evs2⟩ : ∃ y : Int32, y = x + 1 := ⟨_, rfl⟩
        refine lv_iinc (v := vs2) (lv' := [(2, .int vs2), (3, .ref (B (kP k))), (0, .ref (B 29)), (1, .int a)]) hx hb dX4_findOpen_37 hl (k := 3) rfl (by rw [evs2]; rfl) (by decide) rfl (fun ls hl => ?_)
        refine lv_goto (tgt := 2) hx hb dX4_findOpen_40 (by decide) ?_
        exact ih (k + 1) vs2 u (by omega) hc (by rw [evs2, hxk]; exact nI_1 k) (hr.trans (by subst_vars; first | rfl | (simp only [cu_fo]; done) | (simp only [cu_fo]; (repeat' split) <;> first | rfl | contradiction | simp_all))) (hu.trans (by subst_vars; first | rfl | (simp only [cu_fo]; done) | (simp only [cu_fo]; (repeat' split) <;> first | rfl | contradiction | simp_all))) H locs ls hN (lv_sub hl [2, 3, 0] rfl)
      · refine lv_aload_n hx hb dX4_findOpen_35 rfl (lv_at hl 0 rfl) ?_
        exact rr_aret C hN dX4_findOpen_36 (Or.inr ⟨_, rfl⟩) (hr.trans (by subst_vars; first | rfl | (simp only [cu_fo]; done) | (simp only [cu_fo]; (repeat' split) <;> first | rfl | contradiction | simp_all))) hu
set_option maxHeartbeats 4000000 in
set_option maxRecDepth 100000 in
theorem ct_X4_findOpen (l : Launch) {D : va_G} {ca : Nat → ClassId} {B : Nat → Nat} {N n : Nat} {X : va_W} {u : ww_U} (a : Int32) (hNn : 36 + 8 * n ≤ N) (hn8 : n ≤ 8) (hc : u 29 1 = nI n) : ww_M l yX4_findOpen wsX4_findOpen ({ frames := 0, cells := 0, slots := 0, locals := 0 } : Room) D ca B N n X u [.ref (B 29), .int a] (some (va_rf ((cu_fo n 0 a u).map (fun j => B (kP j))))) u := by
  refine ww_met (cc := cX4_findOpen) (maxL := 4) (ret := (some (.object "UpdatePacks$Pack"))) (by decide) rfl (Nat.le_of_ble_eq_true rfl) ?_
  intro p e s m args below meth c C hN ls hl
  have hl : lv_has ls 4 [(0, .ref (B 29)), (1, .int a)] := hl
  have hx := C.1.1
  have hb := C.1.2.1
  have hNB : 36 ≤ N := by omega
  have hNN : 29 ≤ N := by omega
  refine lv_iconst (v := 0) hx hb dX4_findOpen_0 (by decide) ?_
  refine lv_istore_n (lv' := [(2, .int 0), (0, .ref (B 29)), (1, .int a)]) hx hb dX4_findOpen_1 rfl hl (by decide) rfl (fun ls hl => ?_)
  exact lp_X4_findOpen C hNn a hn8 n 0 0 u (by omega) hc rfl rfl rfl _ _ _ hN (lv_sub hl [1, 2, 0] rfl)
def cu_switch (n : Nat) (u : ww_U) (i : Nat) : ww_U := if cu_asw n 0 (ww_up (cu_other u i) (kP i) 4 3 (kP i) 6) (ww_up (cu_other u i) (kP i) 4 3) = 0 then ww_up (cu_other u i) (kP i) 4 3 else cu_mls n 0 (ww_up (cu_other u i) (kP i) 4 3 (kP i) 6) (ww_up (cu_other u i) (kP i) 4 3)
def cu_ready (n : Nat) (u : ww_U) (i : Nat) : ww_U × Int32 := if u (kP i) 7 = 0 then (if cu_hold u = 0 then (u, 2) else if cu_can n 0 (u (kP i) 6) u = 0 then (u, 2) else (cu_com n 0 (u (kP i) 6) u, 2)) else (cu_switch n u i, 3)
set_option maxRecDepth 20000 in
theorem kw_X4_switchBanks_X1 : ww_K wsX4_switchBanks RX1 TX1 10 tyX1 := ⟨by decide +kernel, tyX1_ok, nmX1⟩
set_option maxRecDepth 20000 in
theorem kw_X4_switchBanks_X3 : ww_K wsX4_switchBanks RX3 TX3 8 tyX3 := ⟨by decide +kernel, tyX3_ok, nmX3⟩
set_option maxHeartbeats 4000000 in
set_option maxRecDepth 100000 in
theorem ct_X4_switchBanks (l : Launch) {D : va_G} {ca : Nat → ClassId} {B : Nat → Nat} {N n : Nat} {X : va_W} {u : ww_U} {i : Nat} (hi : i < n) (hNn : 36 + 8 * n ≤ N) (hn8 : n ≤ 8) (hc : u 29 1 = nI n) (hrun : cu_run n u) : ww_M l yX4_switchBanks wsX4_switchBanks ({ frames := 2, cells := 0, slots := 0, locals := 44 } : Room) D ca B N n X u [.ref (B 29), .ref (B (kC i))] none (cu_switch n u i) := by
  refine ww_met (cc := cX4_switchBanks) (maxL := 2) (ret := none) (by decide) rfl (Nat.le_of_ble_eq_true rfl) ?_
  intro p e s m args below meth c C hN ls hl
  have hl : lv_has ls 2 [(0, .ref (B 29)), (1, .ref (B (kC i)))] := hl
  have hx := C.1.1
  have hb := C.1.2.1
  have hNB : 36 ≤ N := by omega
  have hNN : 29 ≤ N := by omega
  obtain ⟨b, hb2, hbe⟩ := hrun i hi
  have hcb : cu_b u i = b := cu_b_of hb2 hbe
  refine lv_aload_n hx hb dX4_switchBanks_0 rfl (lv_at hl 1 rfl) ?_
  refine rr_callV0 (As := []) C hN (kC i) (kC_lt hNn hi) hC_ce rfl rfl (ct_X1_runOtherBank l hi hb2 hbe hNn) gX4_switchBanks_X1_runOtherBank rfl rfl rfl 0 (by decide +kernel) ⟨Nat.le_of_ble_eq_true rfl, Nat.le_of_ble_eq_true rfl⟩ rfl hl.1 rfl (Nat.le_of_ble_eq_true rfl) ⟨Nat.zero_le _, Nat.zero_le _⟩ dX4_switchBanks_1 (fun H locs hN => ?_)
  obtain ⟨u1, eu1⟩ : ∃ y : ww_U, y = cu_other u i := ⟨_, rfl⟩
  rw [← eu1] at hN
  refine lv_aload_n hx hb dX4_switchBanks_4 rfl (lv_at hl 1 rfl) ?_
  refine rr_get C hN (kC i) (kC_lt hNn hi) hC_ce rfl kw_X4_switchBanks_X1 2 (by decide) (List.mem_of_getElem? (i := 1) rfl) (v := .ref (B (kP i))) rfl dX4_switchBanks_5 ?_
  refine lv_iconst (v := 3) hx hb dX4_switchBanks_8 (by decide) ?_
  refine rr_put C hN (kP i) (kP_lt hNn hi) hP_ce rfl kw_X4_switchBanks_X3 4 (by decide) (List.mem_of_getElem? (i := 2) rfl) rfl (x := 3) rfl rfl (Nat.le_of_ble_eq_true rfl) (hP_ce.trans rfl) dX4_switchBanks_9 (fun u2 eu2 H locs hN => ?_)
  refine lv_aload_n hx hb dX4_switchBanks_12 rfl (lv_at hl 0 rfl) ?_
  refine lv_aload_n hx hb dX4_switchBanks_13 rfl (lv_at hl 1 rfl) ?_
  refine rr_get C hN (kC i) (kC_lt hNn hi) hC_ce rfl kw_X4_switchBanks_X1 2 (by decide) (List.mem_of_getElem? (i := 1) rfl) (v := .ref (B (kP i))) rfl dX4_switchBanks_14 ?_
  refine rr_get C hN (kP i) (kP_lt hNn hi) hP_ce rfl kw_X4_switchBanks_X3 6 (by decide) (List.mem_of_getElem? (i := 3) rfl) (v := .int (u2 (kP i) 6)) rfl dX4_switchBanks_17 ?_
  refine rr_callV (As := [.int (u2 (kP i) 6)]) C hN 29 (Nat.lt_of_lt_of_le (by decide) hNB) rfl rfl rfl (ct_X4_allSwitched l (u2 (kP i) 6) hNn hn8 (by subst_vars; rw [ww_up_ne (by simp only [kP]; omega), cu_other_ne (by simp only [kC]; omega)]; exact hc)) gX4_switchBanks_X4_allSwitched rfl rfl rfl 1 (by decide +kernel) ⟨Nat.le_of_ble_eq_true rfl, Nat.le_of_ble_eq_true rfl⟩ rfl hl.1 rfl (Nat.le_of_ble_eq_true rfl) ⟨Nat.zero_le _, Nat.zero_le _⟩ dX4_switchBanks_20 (fun H locs hN => ?_)
  refine lv_topi (fun v3 ev3 => ?_)
  refine lv_if_eq (tgt := 37) hx hb dX4_switchBanks_23 (by decide) (fun c_23 => ?_) (fun c_23 => ?_)
  · exact rr_vret C hN dX4_switchBanks_37 rfl (by subst_vars; first | rfl | (simp only [cu_switch]; done) | (simp only [cu_switch]; (repeat' split) <;> first | rfl | contradiction | simp_all))
  · refine lv_aload_n hx hb dX4_switchBanks_26 rfl (lv_at hl 0 rfl) ?_
    refine lv_aload_n hx hb dX4_switchBanks_27 rfl (lv_at hl 1 rfl) ?_
    refine rr_get C hN (kC i) (kC_lt hNn hi) hC_ce rfl kw_X4_switchBanks_X1 2 (by decide) (List.mem_of_getElem? (i := 1) rfl) (v := .ref (B (kP i))) rfl dX4_switchBanks_28 ?_
    refine rr_get C hN (kP i) (kP_lt hNn hi) hP_ce rfl kw_X4_switchBanks_X3 6 (by decide) (List.mem_of_getElem? (i := 3) rfl) (v := .int (u2 (kP i) 6)) rfl dX4_switchBanks_31 ?_
    refine rr_callV0 (As := [.int (u2 (kP i) 6)]) C hN 29 (Nat.lt_of_lt_of_le (by decide) hNB) rfl rfl rfl (ct_X4_makeLastSet l (u2 (kP i) 6) hNn hn8 (by subst_vars; rw [ww_up_ne (by simp only [kP]; omega), cu_other_ne (by simp only [kC]; omega)]; exact hc)) gX4_switchBanks_X4_makeLastSet rfl rfl rfl 1 (by decide +kernel) ⟨Nat.le_of_ble_eq_true rfl, Nat.le_of_ble_eq_true rfl⟩ rfl hl.1 rfl (Nat.le_of_ble_eq_true rfl) ⟨Nat.zero_le _, Nat.zero_le _⟩ dX4_switchBanks_34 (fun H locs hN => ?_)
    obtain ⟨u4, eu4⟩ : ∃ y : ww_U, y = cu_mls n 0 (u2 (kP i) 6) u2 := ⟨_, rfl⟩
    rw [← eu4] at hN
    exact rr_vret C hN dX4_switchBanks_37 rfl (by subst_vars; first | rfl | (simp only [cu_switch]; done) | (simp only [cu_switch]; (repeat' split) <;> first | rfl | contradiction | simp_all))
set_option maxRecDepth 20000 in
theorem kw_X4_stepOfReady_X1 : ww_K wsX4_stepOfReady RX1 TX1 10 tyX1 := ⟨by decide +kernel, tyX1_ok, nmX1⟩
set_option maxRecDepth 20000 in
theorem kw_X4_stepOfReady_X3 : ww_K wsX4_stepOfReady RX3 TX3 8 tyX3 := ⟨by decide +kernel, tyX3_ok, nmX3⟩
set_option maxHeartbeats 4000000 in
set_option maxRecDepth 100000 in
theorem ct_X4_stepOfReady (l : Launch) {D : va_G} {ca : Nat → ClassId} {B : Nat → Nat} {N n : Nat} {X : va_W} {u : ww_U} {i : Nat} (hi : i < n) (hNn : 36 + 8 * n ≤ N) (hn8 : n ≤ 8) (hc : u 29 1 = nI n) (hrun : cu_run n u) : ww_M l yX4_stepOfReady wsX4_stepOfReady ({ frames := 3, cells := 0, slots := 0, locals := 65 } : Room) D ca B N n X u [.ref (B 29), .ref (B (kC i))] (some (.int (cu_ready n u i).2)) (cu_ready n u i).1 := by
  refine ww_met (cc := cX4_stepOfReady) (maxL := 2) (ret := (some .int)) (by decide) rfl (Nat.le_of_ble_eq_true rfl) ?_
  intro p e s m args below meth c C hN ls hl
  have hl : lv_has ls 2 [(0, .ref (B 29)), (1, .ref (B (kC i)))] := hl
  have hx := C.1.1
  have hb := C.1.2.1
  have hNB : 36 ≤ N := by omega
  have hNN : 29 ≤ N := by omega
  refine lv_aload_n hx hb dX4_stepOfReady_0 rfl (lv_at hl 1 rfl) ?_
  refine rr_get C hN (kC i) (kC_lt hNn hi) hC_ce rfl kw_X4_stepOfReady_X1 2 (by decide) (List.mem_of_getElem? (i := 1) rfl) (v := .ref (B (kP i))) rfl dX4_stepOfReady_1 ?_
  refine rr_get C hN (kP i) (kP_lt hNn hi) hP_ce rfl kw_X4_stepOfReady_X3 7 (by decide) (List.mem_of_getElem? (i := 2) rfl) (v := .int (u (kP i) 7)) rfl dX4_stepOfReady_4 ?_
  refine lv_if_eq (tgt := 17) hx hb dX4_stepOfReady_7 (by decide) (fun c_7 => ?_) (fun c_7 => ?_)
  · refine lv_aload_n hx hb dX4_stepOfReady_17 rfl (lv_at hl 0 rfl) ?_
    refine rr_callV (As := []) C hN 29 (Nat.lt_of_lt_of_le (by decide) hNB) rfl rfl rfl (ct_X4_bothHold l hNn) gX4_stepOfReady_X4_bothHold rfl rfl rfl 0 (by decide +kernel) ⟨Nat.le_of_ble_eq_true rfl, Nat.le_of_ble_eq_true rfl⟩ rfl hl.1 rfl (Nat.le_of_ble_eq_true rfl) ⟨Nat.zero_le _, Nat.zero_le _⟩ dX4_stepOfReady_18 (fun H locs hN => ?_)
    refine lv_topi (fun v1 ev1 => ?_)
    refine lv_if_eq (tgt := 49) hx hb dX4_stepOfReady_21 (by decide) (fun c_21 => ?_) (fun c_21 => ?_)
    · refine lv_iconst (v := 2) hx hb dX4_stepOfReady_49 (by decide) ?_
      exact rr_iret C hN dX4_stepOfReady_50 (by subst_vars; first | rfl | (simp only [cu_ready]; done) | (simp only [cu_ready]; (repeat' split) <;> first | rfl | contradiction | simp_all)) (by subst_vars; first | rfl | (simp only [cu_ready]; done) | (simp only [cu_ready]; (repeat' split) <;> first | rfl | contradiction | simp_all))
    · refine lv_aload_n hx hb dX4_stepOfReady_24 rfl (lv_at hl 0 rfl) ?_
      refine lv_aload_n hx hb dX4_stepOfReady_25 rfl (lv_at hl 1 rfl) ?_
      refine rr_get C hN (kC i) (kC_lt hNn hi) hC_ce rfl kw_X4_stepOfReady_X1 2 (by decide) (List.mem_of_getElem? (i := 1) rfl) (v := .ref (B (kP i))) rfl dX4_stepOfReady_26 ?_
      refine rr_get C hN (kP i) (kP_lt hNn hi) hP_ce rfl kw_X4_stepOfReady_X3 6 (by decide) (List.mem_of_getElem? (i := 3) rfl) (v := .int (u (kP i) 6)) rfl dX4_stepOfReady_29 ?_
      refine rr_callV (As := [.int (u (kP i) 6)]) C hN 29 (Nat.lt_of_lt_of_le (by decide) hNB) rfl rfl rfl (ct_X4_allCanCommit l (u (kP i) 6) hNn hn8 hc) gX4_stepOfReady_X4_allCanCommit rfl rfl rfl 1 (by decide +kernel) ⟨Nat.le_of_ble_eq_true rfl, Nat.le_of_ble_eq_true rfl⟩ rfl hl.1 rfl (Nat.le_of_ble_eq_true rfl) ⟨Nat.zero_le _, Nat.zero_le _⟩ dX4_stepOfReady_32 (fun H locs hN => ?_)
      refine lv_topi (fun v2 ev2 => ?_)
      refine lv_if_eq (tgt := 49) hx hb dX4_stepOfReady_35 (by decide) (fun c_35 => ?_) (fun c_35 => ?_)
      · refine lv_iconst (v := 2) hx hb dX4_stepOfReady_49 (by decide) ?_
        exact rr_iret C hN dX4_stepOfReady_50 (by subst_vars; first | rfl | (simp only [cu_ready]; done) | (simp only [cu_ready]; (repeat' split) <;> first | rfl | contradiction | simp_all)) (by subst_vars; first | rfl | (simp only [cu_ready]; done) | (simp only [cu_ready]; (repeat' split) <;> first | rfl | contradiction | simp_all))
      · refine lv_aload_n hx hb dX4_stepOfReady_38 rfl (lv_at hl 0 rfl) ?_
        refine lv_aload_n hx hb dX4_stepOfReady_39 rfl (lv_at hl 1 rfl) ?_
        refine rr_get C hN (kC i) (kC_lt hNn hi) hC_ce rfl kw_X4_stepOfReady_X1 2 (by decide) (List.mem_of_getElem? (i := 1) rfl) (v := .ref (B (kP i))) rfl dX4_stepOfReady_40 ?_
        refine rr_get C hN (kP i) (kP_lt hNn hi) hP_ce rfl kw_X4_stepOfReady_X3 6 (by decide) (List.mem_of_getElem? (i := 3) rfl) (v := .int (u (kP i) 6)) rfl dX4_stepOfReady_43 ?_
        refine rr_callV0 (As := [.int (u (kP i) 6)]) C hN 29 (Nat.lt_of_lt_of_le (by decide) hNB) rfl rfl rfl (ct_X4_commit l (u (kP i) 6) hNn hn8 hc) gX4_stepOfReady_X4_commit rfl rfl rfl 1 (by decide +kernel) ⟨Nat.le_of_ble_eq_true rfl, Nat.le_of_ble_eq_true rfl⟩ rfl hl.1 rfl (Nat.le_of_ble_eq_true rfl) ⟨Nat.zero_le _, Nat.zero_le _⟩ dX4_stepOfReady_46 (fun H locs hN => ?_)
        obtain ⟨u3, eu3⟩ : ∃ y : ww_U, y = cu_com n 0 (u (kP i) 6) u := ⟨_, rfl⟩
        rw [← eu3] at hN
        refine lv_iconst (v := 2) hx hb dX4_stepOfReady_49 (by decide) ?_
        exact rr_iret C hN dX4_stepOfReady_50 (by subst_vars; first | rfl | (simp only [cu_ready]; done) | (simp only [cu_ready]; (repeat' split) <;> first | rfl | contradiction | simp_all)) (by subst_vars; first | rfl | (simp only [cu_ready]; done) | (simp only [cu_ready]; (repeat' split) <;> first | rfl | contradiction | simp_all))
  · refine lv_aload_n hx hb dX4_stepOfReady_10 rfl (lv_at hl 0 rfl) ?_
    refine lv_aload_n hx hb dX4_stepOfReady_11 rfl (lv_at hl 1 rfl) ?_
    refine rr_callV0 (As := [.ref (B (kC i))]) C hN 29 (Nat.lt_of_lt_of_le (by decide) hNB) rfl rfl rfl (ct_X4_switchBanks l hi hNn hn8 hc hrun) gX4_stepOfReady_X4_switchBanks rfl rfl rfl 1 (by decide +kernel) ⟨Nat.le_of_ble_eq_true rfl, Nat.le_of_ble_eq_true rfl⟩ rfl hl.1 rfl (Nat.le_of_ble_eq_true rfl) ⟨Nat.zero_le _, Nat.zero_le _⟩ dX4_stepOfReady_12 (fun H locs hN => ?_)
    obtain ⟨u4, eu4⟩ : ∃ y : ww_U, y = cu_switch n u i := ⟨_, rfl⟩
    rw [← eu4] at hN
    refine lv_iconst (v := 3) hx hb dX4_stepOfReady_15 (by decide) ?_
    exact rr_iret C hN dX4_stepOfReady_16 (by subst_vars; first | rfl | (simp only [cu_ready]; done) | (simp only [cu_ready]; (repeat' split) <;> first | rfl | contradiction | simp_all)) (by subst_vars; first | rfl | (simp only [cu_ready]; done) | (simp only [cu_ready]; (repeat' split) <;> first | rfl | contradiction | simp_all))
def cu_refuse (u : ww_U) (i : Nat) (e z : Int32) : Int32 := if e < 1 then -2 else if 1000 < e then -2 else if u 29 4 = 0 then -2 else if u (kP i) 4 = 2 then -3 else if u (kP i) 4 = 3 then -3 else if u 29 2 < 60 then (if z = 0 then -5 else if u 31 0 = u (kC i) 0 then (if u (kC i) 4 < e then 0 else -7) else -6) else -4
theorem i32_nlt {x y : Int32} (h : x < y) : ¬ y ≤ x := Int32.not_le.mpr h
theorem i32_nle {x y : Int32} (h : ¬ x < y) : y ≤ x := Int32.not_lt.mp h
set_option maxRecDepth 20000 in
theorem kw_X4_refusalOf_X1 : ww_K wsX4_refusalOf RX1 TX1 10 tyX1 := ⟨by decide +kernel, tyX1_ok, nmX1⟩
set_option maxRecDepth 20000 in
theorem kw_X4_refusalOf_X3 : ww_K wsX4_refusalOf RX3 TX3 8 tyX3 := ⟨by decide +kernel, tyX3_ok, nmX3⟩
set_option maxRecDepth 20000 in
theorem kw_X4_refusalOf_X4 : ww_K wsX4_refusalOf RX4 TX4 8 tyX4 := ⟨by decide +kernel, tyX4_ok, nmX4⟩
set_option maxHeartbeats 4000000 in
set_option maxRecDepth 100000 in
theorem ct_X4_refusalOf (l : Launch) {D : va_G} {ca : Nat → ClassId} {B : Nat → Nat} {N n : Nat} {X : va_W} {u : ww_U} {i : Nat} (hi : i < n) (ed z : Int32) (hNn : 36 + 8 * n ≤ N)  : ww_M l yX4_refusalOf wsX4_refusalOf ({ frames := 0, cells := 0, slots := 0, locals := 0 } : Room) D ca B N n X u [.ref (B 29), .ref (B (kC i)), .int ed, .int z] (some (.int (cu_refuse u i ed z))) u := by
  refine ww_met (cc := cX4_refusalOf) (maxL := 4) (ret := (some .int)) (by decide) rfl (Nat.le_of_ble_eq_true rfl) ?_
  intro p e s m args below meth c C hN ls hl
  have hl : lv_has ls 4 [(0, .ref (B 29)), (1, .ref (B (kC i))), (2, .int ed), (3, .int z)] := hl
  have hx := C.1.1
  have hb := C.1.2.1
  have hNB : 36 ≤ N := by omega
  have hNN : 29 ≤ N := by omega
  refine lv_iload_n hx hb dX4_refusalOf_0 rfl (lv_at hl 2 rfl) ?_
  refine lv_iconst (v := 1) hx hb dX4_refusalOf_1 (by decide) ?_
  refine lv_icmp_lt (tgt := 19) hx hb dX4_refusalOf_2 (by decide) (fun c_2 => ?_) (fun c_2 => ?_)
  · refine lv_bipush (v := (-2)) hx hb dX4_refusalOf_19 (by decide) ?_
    exact rr_iret C hN dX4_refusalOf_21 (by subst_vars; first | rfl | (simp only [cu_refuse]; done) | (simp only [cu_refuse]; (repeat' split) <;> first | rfl | contradiction | simp_all)) rfl
  · refine lv_iload_n hx hb dX4_refusalOf_5 rfl (lv_at hl 2 rfl) ?_
    refine lv_sipush (v := 1000) hx hb dX4_refusalOf_6 (by decide) ?_
    refine lv_icmp_gt (tgt := 19) hx hb dX4_refusalOf_9 (by decide) (fun c_9 => ?_) (fun c_9 => ?_)
    · refine lv_bipush (v := (-2)) hx hb dX4_refusalOf_19 (by decide) ?_
      exact rr_iret C hN dX4_refusalOf_21 (by subst_vars; first | rfl | (simp only [cu_refuse]; done) | (simp only [cu_refuse]; (repeat' split) <;> first | rfl | contradiction | simp_all)) rfl
    · refine lv_aload_n hx hb dX4_refusalOf_12 rfl (lv_at hl 0 rfl) ?_
      refine rr_get C hN 29 (Nat.lt_of_lt_of_le (by decide) hNB) rfl rfl kw_X4_refusalOf_X4 4 (by decide) (List.mem_of_getElem? (i := 1) rfl) (v := .int (u 29 4)) rfl dX4_refusalOf_13 ?_
      refine lv_if_ne (tgt := 22) hx hb dX4_refusalOf_16 (by decide) (fun c_16 => ?_) (fun c_16 => ?_)
      · refine lv_aload_n hx hb dX4_refusalOf_22 rfl (lv_at hl 1 rfl) ?_
        refine rr_get C hN (kC i) (kC_lt hNn hi) hC_ce rfl kw_X4_refusalOf_X1 2 (by decide) (List.mem_of_getElem? (i := 2) rfl) (v := .ref (B (kP i))) rfl dX4_refusalOf_23 ?_
        refine rr_get C hN (kP i) (kP_lt hNn hi) hP_ce rfl kw_X4_refusalOf_X3 4 (by decide) (List.mem_of_getElem? (i := 3) rfl) (v := .int (u (kP i) 4)) rfl dX4_refusalOf_26 ?_
        refine lv_iconst (v := 2) hx hb dX4_refusalOf_29 (by decide) ?_
        refine lv_icmp_eq (tgt := 44) hx hb dX4_refusalOf_30 (by decide) (fun c_30 => ?_) (fun c_30 => ?_)
        · refine lv_bipush (v := (-3)) hx hb dX4_refusalOf_44 (by decide) ?_
          exact rr_iret C hN dX4_refusalOf_46 (by subst_vars; first | rfl | (simp only [cu_refuse]; done) | (simp only [cu_refuse]; (repeat' split) <;> first | rfl | contradiction | simp_all)) rfl
        · refine lv_aload_n hx hb dX4_refusalOf_33 rfl (lv_at hl 1 rfl) ?_
          refine rr_get C hN (kC i) (kC_lt hNn hi) hC_ce rfl kw_X4_refusalOf_X1 2 (by decide) (List.mem_of_getElem? (i := 2) rfl) (v := .ref (B (kP i))) rfl dX4_refusalOf_34 ?_
          refine rr_get C hN (kP i) (kP_lt hNn hi) hP_ce rfl kw_X4_refusalOf_X3 4 (by decide) (List.mem_of_getElem? (i := 3) rfl) (v := .int (u (kP i) 4)) rfl dX4_refusalOf_37 ?_
          refine lv_iconst (v := 3) hx hb dX4_refusalOf_40 (by decide) ?_
          refine lv_icmp_ne (tgt := 47) hx hb dX4_refusalOf_41 (by decide) (fun c_41 => ?_) (fun c_41 => ?_)
          · refine lv_aload_n hx hb dX4_refusalOf_47 rfl (lv_at hl 0 rfl) ?_
            refine rr_get C hN 29 (Nat.lt_of_lt_of_le (by decide) hNB) rfl rfl kw_X4_refusalOf_X4 2 (by decide) (List.mem_of_getElem? (i := 4) rfl) (v := .int (u 29 2)) rfl dX4_refusalOf_48 ?_
            refine lv_bipush (v := 60) hx hb dX4_refusalOf_51 (by decide) ?_
            refine lv_icmp_lt (tgt := 59) hx hb dX4_refusalOf_53 (by decide) (fun c_53 => ?_) (fun c_53 => ?_)
            · refine lv_iload_n hx hb dX4_refusalOf_59 rfl (lv_at hl 3 rfl) ?_
              refine lv_if_ne (tgt := 66) hx hb dX4_refusalOf_60 (by decide) (fun c_60 => ?_) (fun c_60 => ?_)
              · refine lv_aload_n hx hb dX4_refusalOf_66 rfl (lv_at hl 0 rfl) ?_
                refine rr_get C hN 29 (Nat.lt_of_lt_of_le (by decide) hNB) rfl rfl kw_X4_refusalOf_X4 3 (by decide) (List.mem_of_getElem? (i := 5) rfl) (v := .ref (B 31)) rfl dX4_refusalOf_67 ?_
                refine lv_iconst (v := 0) hx hb dX4_refusalOf_70 (by decide) ?_
                refine rr_bald C hN 31 (Nat.lt_of_lt_of_le (by decide) hNB) rfl (by decide) 0 (by decide) rfl dX4_refusalOf_71 ?_
                refine lv_aload_n hx hb dX4_refusalOf_72 rfl (lv_at hl 1 rfl) ?_
                refine rr_get C hN (kC i) (kC_lt hNn hi) hC_ce rfl kw_X4_refusalOf_X1 0 (by decide) (List.mem_of_getElem? (i := 6) rfl) (v := .int (u (kC i) 0)) rfl dX4_refusalOf_73 ?_
                refine lv_icmp_eq (tgt := 82) hx hb dX4_refusalOf_76 (by decide) (fun c_76 => ?_) (fun c_76 => ?_)
                · refine lv_iload_n hx hb dX4_refusalOf_82 rfl (lv_at hl 2 rfl) ?_
                  refine lv_aload_n hx hb dX4_refusalOf_83 rfl (lv_at hl 1 rfl) ?_
                  refine rr_get C hN (kC i) (kC_lt hNn hi) hC_ce rfl kw_X4_refusalOf_X1 4 (by decide) (List.mem_of_getElem? (i := 7) rfl) (v := .int (u (kC i) 4)) rfl dX4_refusalOf_84 ?_
                  refine lv_icmp_gt (tgt := 95) hx hb dX4_refusalOf_87 (by decide) (fun c_87 => ?_) (fun c_87 => ?_)
                  · refine lv_iconst (v := 0) hx hb dX4_refusalOf_95 (by decide) ?_
                    exact rr_iret C hN dX4_refusalOf_96 (by subst_vars; first | rfl | (simp only [cu_refuse]; done) | (simp only [cu_refuse]; (repeat' split) <;> first | rfl | contradiction | simp_all)) rfl
                  · refine lv_bipush (v := (-7)) hx hb dX4_refusalOf_90 (by decide) ?_
                    refine lv_goto (tgt := 96) hx hb dX4_refusalOf_92 (by decide) ?_
                    exact rr_iret C hN dX4_refusalOf_96 (by subst_vars; first | rfl | (simp only [cu_refuse]; done) | (simp only [cu_refuse]; (repeat' split) <;> first | rfl | contradiction | simp_all)) rfl
                · refine lv_bipush (v := (-6)) hx hb dX4_refusalOf_79 (by decide) ?_
                  exact rr_iret C hN dX4_refusalOf_81 (by subst_vars; first | rfl | (simp only [cu_refuse]; done) | (simp only [cu_refuse]; (repeat' split) <;> first | rfl | contradiction | simp_all)) rfl
              · refine lv_bipush (v := (-5)) hx hb dX4_refusalOf_63 (by decide) ?_
                exact rr_iret C hN dX4_refusalOf_65 (by subst_vars; first | rfl | (simp only [cu_refuse]; done) | (simp only [cu_refuse]; (repeat' split) <;> first | rfl | contradiction | simp_all)) rfl
            · refine lv_bipush (v := (-4)) hx hb dX4_refusalOf_56 (by decide) ?_
              exact rr_iret C hN dX4_refusalOf_58 (by subst_vars; first | rfl | (simp only [cu_refuse]; done) | (simp only [cu_refuse]; (repeat' split) <;> first | rfl | contradiction | simp_all)) rfl
          · refine lv_bipush (v := (-3)) hx hb dX4_refusalOf_44 (by decide) ?_
            exact rr_iret C hN dX4_refusalOf_46 (by subst_vars; first | rfl | (simp only [cu_refuse]; done) | (simp only [cu_refuse]; (repeat' split) <;> first | rfl | contradiction | simp_all)) rfl
      · refine lv_bipush (v := (-2)) hx hb dX4_refusalOf_19 (by decide) ?_
        exact rr_iret C hN dX4_refusalOf_21 (by subst_vars; first | rfl | (simp only [cu_refuse]; done) | (simp only [cu_refuse]; (repeat' split) <;> first | rfl | contradiction | simp_all)) rfl
end
section
def cu_begin : Nat → Nat → Nat → ww_U → ww_U
  | 0, _, _, u => u
  | d + 1, k, i, u => cu_begin d (k + 1) i (ww_up u (kQ i) k (vp_nar .byte (u 31 k)))
def cu_beg (m i : Nat) (num ed : Int32) (u : ww_U) : ww_U := ww_up (ww_up (ww_up (ww_up (ww_up (ww_up (ww_up (cu_begin m 0 i u) (kP i) 1 (nI m)) (kP i) 2 num) (kP i) 3 ed) (kP i) 4 1) (kP i) 5 0) (kP i) 6 num) (kP i) 7 0
def cu_zero : Nat → Nat → Nat → Nat → ww_U → ww_U
  | 0, _, _, _, u => u
  | d + 1, k, i, b, u => cu_zero d (k + 1) i b (ww_up u (kO i b) k (vp_nar .byte 0))
def cu_comp (u : ww_U) (i b len : Nat) : ww_U := ww_up (ww_up (ww_up (cu_zero (256 - len) len i b u) (kB i b) 1 (cu_zero (256 - len) len i b u (kP i) 3)) (kB i b) 2 (ww_up (cu_zero (256 - len) len i b u) (kB i b) 1 (cu_zero (256 - len) len i b u (kP i) 3) (kP i) 2)) (kP i) 4 2
def cu_wl : Nat → Nat → Nat → Nat → Int32 → ww_U → ww_U
  | 0, _, _, _, _, u => u
  | d + 1, k, i, b, f, u => cu_wl d (k + 1) i b f (ww_up u (kO i b) k (vp_nar .byte (u (kQ i) k ^^^ f).toInt8.toInt32))
theorem cu_zero_ne {d k i b a : Nat} {u : ww_U} (h : a ≠ kO i b) : cu_zero d k i b u a = u a := by
  induction d generalizing k u with
  | zero => rfl
  | succ d ih => show cu_zero d (k + 1) i b _ a = _; rw [ih, ww_up_ne h]
theorem cu_wl_ne {d k i b a : Nat} {f : Int32} {u : ww_U} (h : a ≠ kO i b) : cu_wl d k i b f u a = u a := by
  induction d generalizing k u with
  | zero => rfl
  | succ d ih => show cu_wl d (k + 1) i b f _ a = _; rw [ih, ww_up_ne h]
theorem cu_begin_ne {d k i a : Nat} {u : ww_U} (h : a ≠ kQ i) : cu_begin d k i u a = u a := by
  induction d generalizing k u with
  | zero => rfl
  | succ d ih => show cu_begin d (k + 1) i _ a = _; rw [ih, ww_up_ne h]
def cu_write (u : ww_U) (i b w len : Nat) : ww_U :=
  if u (kC i) 8 ≠ 0 ∧ u (kC i) 7 = u (kP i) 5 then ww_up (cu_wl (min (16 * w + 16) len - 16 * w) (16 * w) i b (u (kC i) 8) u) (kC i) 8 0
  else if 16 * w + 16 < len then ww_up (cu_wl (min (16 * w + 16) len - 16 * w) (16 * w) i b 0 u) (kP i) 5 (u (kP i) 5 + 1)
  else cu_comp (ww_up (cu_wl (min (16 * w + 16) len - 16 * w) (16 * w) i b 0 u) (kP i) 5 (u (kP i) 5 + 1)) i b len
set_option maxRecDepth 20000 in
theorem kw_X3_begin_X3 : ww_K wsX3_begin RX3 TX3 8 tyX3 := ⟨by decide +kernel, tyX3_ok, nmX3⟩
set_option maxHeartbeats 4000000 in
set_option maxRecDepth 100000 in
theorem lp_X3_begin {p : Program} {l : Launch} {e : Env} {s : State} {m : MethodId} {args : Array Value} {below : List Frame} {meth : Method} {c : Code} {D : va_G} {ca : Nat → ClassId} {B : Nat → Nat} {N n : Nat} {X : va_W} (C : ww_C D ca yX3_begin.cls cX3_begin 6 wsX3_begin none (ww_A B N X s.heap.size) p s m args meth c) (hNn : 36 + 8 * n ≤ N) {i : Nat} (hi : i < n) (num ed cnt : Int32) {mm : Nat} (hm : mm ≤ 256) (hcm : cnt = nI mm)  {r : Option Value} {u' : ww_U} : ∀ (d k : Nat) (x : Int32) (u : ww_U), k + d = mm → (x = nI k) → r = none → u' = ww_up (ww_up (ww_up (ww_up (ww_up (ww_up (ww_up (cu_begin d k i u) (kP i) 1 cnt) (kP i) 2 num) (kP i) 3 ed) (kP i) 4 1) (kP i) 5 0) (kP i) 6 num) (kP i) 7 0 → ∀ (H : Heap) (locs : List Loc) (ls : Array Slot), ww_N D ca B N n u X (ww_A B N X s.heap.size) s.heap H locs → lv_has ls 6 [(0, .ref (B (kP i))), (1, .int num), (2, .int ed), (3, .ref (B 31)), (4, .int cnt), (5, .int x)] → W p l e (headSpec wsX3_begin ({ frames := 0, cells := 0, slots := 0, locals := 0 } : Room)).room s m args below meth c H locs 0 0 (MQ below (ww_Q D ca B N n X s.heap.size r u') args s 0 0 (ww_A B N X s.heap.size)) (F0 m 3 ls []) := by
  have hx := C.1.1
  have hb := C.1.2.1
  have hNB : 36 ≤ N := by omega
  have hNN : 29 ≤ N := by omega
  intro d
  induction d with
  | zero =>
    intro k x u hkd hxk hr hu H locs ls hN hl
    refine lv_iload hx hb dX3_begin_3 (lv_at hl 5 rfl) ?_
    refine lv_iload hx hb dX3_begin_5 (lv_at hl 4 rfl) ?_
    refine lv_icmp_ge (tgt := 27) hx hb dX3_begin_7 (by decide) (fun c_7 => ?_) (fun c_7 => absurd c_7 (fun h => h (by rw [hcm, hxk, show k = mm by omega]; exact nI_le (Nat.le_refl _) (by omega))))
    refine lv_aload_n hx hb dX3_begin_27 rfl (lv_at hl 0 rfl) ?_
    refine lv_iload hx hb dX3_begin_28 (lv_at hl 4 rfl) ?_
    refine rr_put C hN (kP i) (kP_lt hNn hi) hP_ce rfl kw_X3_begin_X3 1 (by decide) (List.mem_of_getElem? (i := 2) rfl) rfl (x := cnt) rfl rfl (Nat.le_of_ble_eq_true rfl) (hP_ce.trans rfl) dX3_begin_30 (fun uz1 euz1 H locs hN => ?_)
    refine lv_aload_n hx hb dX3_begin_33 rfl (lv_at hl 0 rfl) ?_
    refine lv_iload_n hx hb dX3_begin_34 rfl (lv_at hl 1 rfl) ?_
    refine rr_put C hN (kP i) (kP_lt hNn hi) hP_ce rfl kw_X3_begin_X3 2 (by decide) (List.mem_of_getElem? (i := 3) rfl) rfl (x := num) rfl rfl (Nat.le_of_ble_eq_true rfl) (hP_ce.trans rfl) dX3_begin_35 (fun uz2 euz2 H locs hN => ?_)
    refine lv_aload_n hx hb dX3_begin_38 rfl (lv_at hl 0 rfl) ?_
    refine lv_iload_n hx hb dX3_begin_39 rfl (lv_at hl 2 rfl) ?_
    refine rr_put C hN (kP i) (kP_lt hNn hi) hP_ce rfl kw_X3_begin_X3 3 (by decide) (List.mem_of_getElem? (i := 4) rfl) rfl (x := ed) rfl rfl (Nat.le_of_ble_eq_true rfl) (hP_ce.trans rfl) dX3_begin_40 (fun uz3 euz3 H locs hN => ?_)
    refine lv_aload_n hx hb dX3_begin_43 rfl (lv_at hl 0 rfl) ?_
    refine lv_iconst (v := 1) hx hb dX3_begin_44 (by decide) ?_
    refine rr_put C hN (kP i) (kP_lt hNn hi) hP_ce rfl kw_X3_begin_X3 4 (by decide) (List.mem_of_getElem? (i := 5) rfl) rfl (x := 1) rfl rfl (Nat.le_of_ble_eq_true rfl) (hP_ce.trans rfl) dX3_begin_45 (fun uz4 euz4 H locs hN => ?_)
    refine lv_aload_n hx hb dX3_begin_48 rfl (lv_at hl 0 rfl) ?_
    refine lv_iconst (v := 0) hx hb dX3_begin_49 (by decide) ?_
    refine rr_put C hN (kP i) (kP_lt hNn hi) hP_ce rfl kw_X3_begin_X3 5 (by decide) (List.mem_of_getElem? (i := 6) rfl) rfl (x := 0) rfl rfl (Nat.le_of_ble_eq_true rfl) (hP_ce.trans rfl) dX3_begin_50 (fun uz5 euz5 H locs hN => ?_)
    refine lv_aload_n hx hb dX3_begin_53 rfl (lv_at hl 0 rfl) ?_
    refine lv_iload_n hx hb dX3_begin_54 rfl (lv_at hl 1 rfl) ?_
    refine rr_put C hN (kP i) (kP_lt hNn hi) hP_ce rfl kw_X3_begin_X3 6 (by decide) (List.mem_of_getElem? (i := 7) rfl) rfl (x := num) rfl rfl (Nat.le_of_ble_eq_true rfl) (hP_ce.trans rfl) dX3_begin_55 (fun uz6 euz6 H locs hN => ?_)
    refine lv_aload_n hx hb dX3_begin_58 rfl (lv_at hl 0 rfl) ?_
    refine lv_iconst (v := 0) hx hb dX3_begin_59 (by decide) ?_
    refine rr_put C hN (kP i) (kP_lt hNn hi) hP_ce rfl kw_X3_begin_X3 7 (by decide) (List.mem_of_getElem? (i := 8) rfl) rfl (x := 0) (by decide) (by decide) (Nat.le_of_ble_eq_true rfl) (hP_ce.trans rfl) dX3_begin_60 (fun uz7 euz7 H locs hN => ?_)
    exact rr_vret C hN dX3_begin_63 hr (hu.trans (by subst_vars; rfl))
  | succ d ih =>
    intro k x u hkd hxk hr hu H locs ls hN hl
    refine lv_iload hx hb dX3_begin_3 (lv_at hl 5 rfl) ?_
    refine lv_iload hx hb dX3_begin_5 (lv_at hl 4 rfl) ?_
    refine lv_icmp_ge (tgt := 27) hx hb dX3_begin_7 (by decide) (fun c_7 => absurd c_7 (by rw [hcm, hxk]; exact nI_ge (by omega) (by omega))) (fun c_7 => ?_)
    refine lv_aload_n hx hb dX3_begin_10 rfl (lv_at hl 0 rfl) ?_
    refine rr_get C hN (kP i) (kP_lt hNn hi) hP_ce rfl kw_X3_begin_X3 0 (by decide) (List.mem_of_getElem? (i := 1) rfl) (v := .ref (B (kQ i))) rfl dX3_begin_11 ?_
    refine lv_iload hx hb dX3_begin_14 (lv_at hl 5 rfl) ?_
    refine lv_aload_n hx hb dX3_begin_16 rfl (lv_at hl 3 rfl) ?_
    refine lv_iload hx hb dX3_begin_17 (lv_at hl 5 rfl) ?_
    refine rr_bald C hN 31 (Nat.lt_of_lt_of_le (by decide) hNB) rfl (by decide) k (by omega) hxk dX3_begin_19 ?_
    refine rr_bast C hN (kQ i) (kQ_lt hNn hi) (fun _ => hQ_ce) (by decide) k (by omega) hxk dX3_begin_20 (fun us1 eus1 H locs hN => ?_)
    obtain ⟨vs2, evs2⟩ : ∃ y : Int32, y = x + 1 := ⟨_, rfl⟩
    refine lv_iinc (v := vs2) (lv' := [(5, .int vs2), (0, .ref (B (kP i))), (1, .int num), (2, .int ed), (3, .ref (B 31)), (4, .int cnt)]) hx hb dX3_begin_21 hl (k := 5) rfl (by rw [evs2]; rfl) (by decide) rfl (fun ls hl => ?_)
    refine lv_goto (tgt := 3) hx hb dX3_begin_24 (by decide) ?_
    exact ih (k + 1) vs2 us1 (by omega) (by rw [evs2, hxk]; exact nI_1 k) (hr.trans (by subst_vars; first | rfl | (simp only [cu_begin]; done) | (simp only [cu_begin]; (repeat' split) <;> first | rfl | contradiction | simp_all))) (hu.trans (by subst_vars; first | rfl | (simp only [cu_begin]; done) | (simp only [cu_begin]; (repeat' split) <;> first | rfl | contradiction | simp_all))) H locs ls hN (lv_sub hl [1, 2, 3, 4, 5, 0] rfl)
set_option maxHeartbeats 4000000 in
set_option maxRecDepth 100000 in
theorem ct_X3_begin (l : Launch) {D : va_G} {ca : Nat → ClassId} {B : Nat → Nat} {N n : Nat} {X : va_W} {u : ww_U} {i : Nat} (hi : i < n) (num ed : Int32) {mm : Nat} (hm : mm ≤ 256) (hNn : 36 + 8 * n ≤ N)  : ww_M l yX3_begin wsX3_begin ({ frames := 0, cells := 0, slots := 0, locals := 0 } : Room) D ca B N n X u [.ref (B (kP i)), .int num, .int ed, .ref (B 31), .int (nI mm)] none (cu_beg mm i num ed u) := by
  refine ww_met (cc := cX3_begin) (maxL := 6) (ret := none) (by decide) rfl (Nat.le_of_ble_eq_true rfl) ?_
  intro p e s m args below meth c C hN ls hl
  have hl : lv_has ls 6 [(0, .ref (B (kP i))), (1, .int num), (2, .int ed), (3, .ref (B 31)), (4, .int (nI mm))] := hl
  have hx := C.1.1
  have hb := C.1.2.1
  have hNB : 36 ≤ N := by omega
  have hNN : 29 ≤ N := by omega
  refine lv_iconst (v := 0) hx hb dX3_begin_0 (by decide) ?_
  refine lv_istore (lv' := [(5, .int 0), (0, .ref (B (kP i))), (1, .int num), (2, .int ed), (3, .ref (B 31)), (4, .int (nI mm))]) hx hb dX3_begin_1 hl (by decide) rfl (fun ls hl => ?_)
  exact lp_X3_begin C hNn hi num ed (nI mm) hm rfl mm 0 0 u (by omega) rfl rfl rfl _ _ _ hN (lv_sub hl [1, 2, 3, 4, 5, 0] rfl)
def cu_octet (u : ww_U) (x : Int32) (g : Nat) : ww_U := if g < 256 then ww_up (ww_up u 31 g (vp_nar .byte x)) 29 4 (nI (g + 1)) else u
theorem cu_oct_lt {a : Int32} {g : Nat} (hg : g ≤ 256) (hge : a = nI g) (h : ¬ 256 ≤ a) : g < 256 := by
  rcases Nat.lt_or_ge g 256 with q | q
  · exact q
  · exact absurd (by rw [hge]; exact nI_le q (by omega)) h
set_option maxRecDepth 20000 in
theorem kw_X4_octet_X4 : ww_K wsX4_octet RX4 TX4 8 tyX4 := ⟨by decide +kernel, tyX4_ok, nmX4⟩
set_option maxHeartbeats 4000000 in
set_option maxRecDepth 100000 in
theorem ct_X4_octet (l : Launch) {D : va_G} {ca : Nat → ClassId} {B : Nat → Nat} {N n : Nat} {X : va_W} {u : ww_U} (x : Int32) {g : Nat} (hg : g ≤ 256) (hge : u 29 4 = nI g) (hNn : 36 + 8 * n ≤ N)  : ww_M l yX4_octet wsX4_octet ({ frames := 0, cells := 0, slots := 0, locals := 0 } : Room) D ca B N n X u [.ref (B 29), .int x] none (cu_octet u x g) := by
  refine ww_met (cc := cX4_octet) (maxL := 2) (ret := none) (by decide) rfl (Nat.le_of_ble_eq_true rfl) ?_
  intro p e s m args below meth c C hN ls hl
  have hl : lv_has ls 2 [(0, .ref (B 29)), (1, .int x)] := hl
  have hx := C.1.1
  have hb := C.1.2.1
  have hNB : 36 ≤ N := by omega
  have hNN : 29 ≤ N := by omega
  refine lv_aload_n hx hb dX4_octet_0 rfl (lv_at hl 0 rfl) ?_
  refine rr_get C hN 29 (Nat.lt_of_lt_of_le (by decide) hNB) rfl rfl kw_X4_octet_X4 4 (by decide) (List.mem_of_getElem? (i := 1) rfl) (v := .int (u 29 4)) rfl dX4_octet_1 ?_
  refine lv_sipush (v := 256) hx hb dX4_octet_4 (by decide) ?_
  refine lv_icmp_ge (tgt := 30) hx hb dX4_octet_7 (by decide) (fun c_7 => ?_) (fun c_7 => ?_)
  · exact rr_vret C hN dX4_octet_30 rfl (by unfold cu_octet; rw [if_neg (fun h => nI_ge h (by decide) (by rw [← hge]; exact c_7))])
  · refine lv_aload_n hx hb dX4_octet_10 rfl (lv_at hl 0 rfl) ?_
    refine rr_get C hN 29 (Nat.lt_of_lt_of_le (by decide) hNB) rfl rfl kw_X4_octet_X4 3 (by decide) (List.mem_of_getElem? (i := 2) rfl) (v := .ref (B 31)) rfl dX4_octet_11 ?_
    refine lv_aload_n hx hb dX4_octet_14 rfl (lv_at hl 0 rfl) ?_
    refine rr_get C hN 29 (Nat.lt_of_lt_of_le (by decide) hNB) rfl rfl kw_X4_octet_X4 4 (by decide) (List.mem_of_getElem? (i := 1) rfl) (v := .int (u 29 4)) rfl dX4_octet_15 ?_
    refine lv_iload_n hx hb dX4_octet_18 rfl (lv_at hl 1 rfl) ?_
    refine rr_bast C hN 31 (Nat.lt_of_lt_of_le (by decide) hNB) (fun _ => rfl) (by decide) g (cu_oct_lt hg hge c_7) hge dX4_octet_19 (fun u1 eu1 H locs hN => ?_)
    refine lv_aload_n hx hb dX4_octet_20 rfl (lv_at hl 0 rfl) ?_
    refine lv_dup hx hb dX4_octet_21 rfl ?_
    refine rr_get C hN 29 (Nat.lt_of_lt_of_le (by decide) hNB) rfl rfl kw_X4_octet_X4 4 (by decide) (List.mem_of_getElem? (i := 1) rfl) (v := .int (u1 29 4)) rfl dX4_octet_22 ?_
    refine lv_iconst (v := 1) hx hb dX4_octet_25 (by decide) ?_
    refine lv_iadd hx hb dX4_octet_26 ?_
    refine lv_topi (fun v2 ev2 => ?_)
    refine rr_put C hN 29 (Nat.lt_of_lt_of_le (by decide) hNB) rfl rfl kw_X4_octet_X4 4 (by decide) (List.mem_of_getElem? (i := 1) rfl) rfl (x := v2) rfl rfl (Nat.le_of_ble_eq_true rfl) ((Eq.refl _).trans rfl) dX4_octet_27 (fun u3 eu3 H locs hN => ?_)
    exact rr_vret C hN dX4_octet_30 rfl (by unfold cu_octet; rw [if_pos (cu_oct_lt hg hge c_7)]; subst_vars; rw [ww_up_ne (by decide), hge, nI_1])
def cu_cond (u : ww_U) (x z : Int32) : ww_U × Int32 := if x = 0 then (ww_up u 29 5 z, cu_hold (ww_up u 29 5 z)) else if x = 1 then (ww_up u 29 6 z, cu_hold (ww_up u 29 6 z)) else (u, -1)
theorem cu_hold_1 {u : ww_U} (h : ¬ cu_hold u = 0) : cu_hold u = 1 := by
  unfold cu_hold at h ⊢
  (repeat' split) <;> simp_all
set_option maxRecDepth 20000 in
theorem kw_X4_condition_X4 : ww_K wsX4_condition RX4 TX4 8 tyX4 := ⟨by decide +kernel, tyX4_ok, nmX4⟩
set_option maxHeartbeats 4000000 in
set_option maxRecDepth 100000 in
theorem ct_X4_condition (l : Launch) {D : va_G} {ca : Nat → ClassId} {B : Nat → Nat} {N n : Nat} {X : va_W} {u : ww_U} (x z : Int32) (hz : z = 0 ∨ z = 1) (hNn : 36 + 8 * n ≤ N)  : ww_M l yX4_condition wsX4_condition ({ frames := 1, cells := 0, slots := 0, locals := 20 } : Room) D ca B N n X u [.ref (B 29), .int x, .int z] (some (.int (cu_cond u x z).2)) (cu_cond u x z).1 := by
  refine ww_met (cc := cX4_condition) (maxL := 3) (ret := (some .int)) (by decide) rfl (Nat.le_of_ble_eq_true rfl) ?_
  intro p e s m args below meth c C hN ls hl
  have hl : lv_has ls 3 [(0, .ref (B 29)), (1, .int x), (2, .int z)] := hl
  have hx := C.1.1
  have hb := C.1.2.1
  have hNB : 36 ≤ N := by omega
  have hNN : 29 ≤ N := by omega
  refine lv_iload_n hx hb dX4_condition_0 rfl (lv_at hl 1 rfl) ?_
  refine lv_if_ne (tgt := 12) hx hb dX4_condition_1 (by decide) (fun c_1 => ?_) (fun c_1 => ?_)
  · refine lv_iload_n hx hb dX4_condition_12 rfl (lv_at hl 1 rfl) ?_
    refine lv_iconst (v := 1) hx hb dX4_condition_13 (by decide) ?_
    refine lv_icmp_ne (tgt := 25) hx hb dX4_condition_14 (by decide) (fun c_14 => ?_) (fun c_14 => ?_)
    · refine lv_iconst (v := (-1)) hx hb dX4_condition_25 (by decide) ?_
      exact rr_iret C hN dX4_condition_26 (by unfold cu_cond; rw [if_neg c_1, if_neg c_14]) (by unfold cu_cond; (first | rw [if_pos c_1] | rw [if_neg c_1, if_pos c_14] | rw [if_neg c_1, if_neg c_14]); try (subst_vars; rfl))
    · refine lv_aload_n hx hb dX4_condition_17 rfl (lv_at hl 0 rfl) ?_
      refine lv_iload_n hx hb dX4_condition_18 rfl (lv_at hl 2 rfl) ?_
      refine rr_put C hN 29 (Nat.lt_of_lt_of_le (by decide) hNB) rfl rfl kw_X4_condition_X4 6 (by decide) (List.mem_of_getElem? (i := 2) rfl) rfl (x := z) (by rcases hz with rfl | rfl <;> rfl) (by rcases hz with rfl | rfl <;> rfl) (Nat.le_of_ble_eq_true rfl) ((Eq.refl _).trans rfl) dX4_condition_19 (fun u1 eu1 H locs hN => ?_)
      refine lv_goto (tgt := 27) hx hb dX4_condition_22 (by decide) ?_
      refine lv_aload_n hx hb dX4_condition_27 rfl (lv_at hl 0 rfl) ?_
      refine rr_callV (As := []) C hN 29 (Nat.lt_of_lt_of_le (by decide) hNB) rfl rfl rfl (ct_X4_bothHold l hNn) gX4_condition_X4_bothHold rfl rfl rfl 0 (by decide +kernel) ⟨Nat.le_of_ble_eq_true rfl, Nat.le_of_ble_eq_true rfl⟩ rfl hl.1 rfl (Nat.le_of_ble_eq_true rfl) ⟨Nat.zero_le _, Nat.zero_le _⟩ dX4_condition_28 (fun H locs hN => ?_)
      refine lv_topi (fun v2 ev2 => ?_)
      refine lv_if_eq (tgt := 38) hx hb dX4_condition_31 (by decide) (fun c_31 => ?_) (fun c_31 => ?_)
      · refine lv_iconst (v := 0) hx hb dX4_condition_38 (by decide) ?_
        exact rr_iret C hN dX4_condition_39 (by rw [ev2, eu1] at c_31; unfold cu_cond; (first | rw [if_pos c_1] | rw [if_neg c_1, if_pos c_14]); first | exact congrArg (fun q => some (Value.int q)) c_31 | exact congrArg (fun q => some (Value.int q)) (cu_hold_1 c_31)) (by unfold cu_cond; (first | rw [if_pos c_1] | rw [if_neg c_1, if_pos c_14] | rw [if_neg c_1, if_neg c_14]); try (subst_vars; rfl))
      · refine lv_iconst (v := 1) hx hb dX4_condition_34 (by decide) ?_
        refine lv_goto (tgt := 39) hx hb dX4_condition_35 (by decide) ?_
        exact rr_iret C hN dX4_condition_39 (by rw [ev2, eu1] at c_31; unfold cu_cond; (first | rw [if_pos c_1] | rw [if_neg c_1, if_pos c_14]); first | exact congrArg (fun q => some (Value.int q)) c_31 | exact congrArg (fun q => some (Value.int q)) (cu_hold_1 c_31)) (by unfold cu_cond; (first | rw [if_pos c_1] | rw [if_neg c_1, if_pos c_14] | rw [if_neg c_1, if_neg c_14]); try (subst_vars; rfl))
  · refine lv_aload_n hx hb dX4_condition_4 rfl (lv_at hl 0 rfl) ?_
    refine lv_iload_n hx hb dX4_condition_5 rfl (lv_at hl 2 rfl) ?_
    refine rr_put C hN 29 (Nat.lt_of_lt_of_le (by decide) hNB) rfl rfl kw_X4_condition_X4 5 (by decide) (List.mem_of_getElem? (i := 1) rfl) rfl (x := z) (by rcases hz with rfl | rfl <;> rfl) (by rcases hz with rfl | rfl <;> rfl) (Nat.le_of_ble_eq_true rfl) ((Eq.refl _).trans rfl) dX4_condition_6 (fun u3 eu3 H locs hN => ?_)
    refine lv_goto (tgt := 27) hx hb dX4_condition_9 (by decide) ?_
    refine lv_aload_n hx hb dX4_condition_27 rfl (lv_at hl 0 rfl) ?_
    refine rr_callV (As := []) C hN 29 (Nat.lt_of_lt_of_le (by decide) hNB) rfl rfl rfl (ct_X4_bothHold l hNn) gX4_condition_X4_bothHold rfl rfl rfl 0 (by decide +kernel) ⟨Nat.le_of_ble_eq_true rfl, Nat.le_of_ble_eq_true rfl⟩ rfl hl.1 rfl (Nat.le_of_ble_eq_true rfl) ⟨Nat.zero_le _, Nat.zero_le _⟩ dX4_condition_28 (fun H locs hN => ?_)
    refine lv_topi (fun v4 ev4 => ?_)
    refine lv_if_eq (tgt := 38) hx hb dX4_condition_31 (by decide) (fun c_31 => ?_) (fun c_31 => ?_)
    · refine lv_iconst (v := 0) hx hb dX4_condition_38 (by decide) ?_
      exact rr_iret C hN dX4_condition_39 (by rw [ev4, eu3] at c_31; unfold cu_cond; (first | rw [if_pos c_1] | rw [if_neg c_1, if_pos c_14]); first | exact congrArg (fun q => some (Value.int q)) c_31 | exact congrArg (fun q => some (Value.int q)) (cu_hold_1 c_31)) (by unfold cu_cond; (first | rw [if_pos c_1] | rw [if_neg c_1, if_pos c_14] | rw [if_neg c_1, if_neg c_14]); try (subst_vars; rfl))
    · refine lv_iconst (v := 1) hx hb dX4_condition_34 (by decide) ?_
      refine lv_goto (tgt := 39) hx hb dX4_condition_35 (by decide) ?_
      exact rr_iret C hN dX4_condition_39 (by rw [ev4, eu3] at c_31; unfold cu_cond; (first | rw [if_pos c_1] | rw [if_neg c_1, if_pos c_14]); first | exact congrArg (fun q => some (Value.int q)) c_31 | exact congrArg (fun q => some (Value.int q)) (cu_hold_1 c_31)) (by unfold cu_cond; (first | rw [if_pos c_1] | rw [if_neg c_1, if_pos c_14] | rw [if_neg c_1, if_neg c_14]); try (subst_vars; rfl))
set_option maxHeartbeats 4000000 in
set_option maxRecDepth 100000 in
theorem ct_X4_block0 (l : Launch) {D : va_G} {ca : Nat → ClassId} {B : Nat → Nat} {N n : Nat} {X : va_W} {u : ww_U} {x : Int32} (h : x < 1 ∨ u 29 1 < x) (y : Int32) (z : Int32) (hNn : 36 + 8 * n ≤ N)  : ww_M l yX4_block wsX4_block ({ frames := 1, cells := 0, slots := 0, locals := 21 } : Room) D ca B N n X u [.ref (B 29), .int x, .int y, .int z] (some (.int (-1))) u := by
  refine ww_met (cc := cX4_block) (maxL := 5) (ret := (some .int)) (by decide) rfl (Nat.le_of_ble_eq_true rfl) ?_
  intro p e s m args below meth c C hN ls hl
  have hl : lv_has ls 5 [(0, .ref (B 29)), (1, .int x), (2, .int y), (3, .int z)] := hl
  have hx := C.1.1
  have hb := C.1.2.1
  have hNB : 36 ≤ N := by omega
  have hNN : 29 ≤ N := by omega
  refine lv_aload_n hx hb dX4_block_0 rfl (lv_at hl 0 rfl) ?_
  refine lv_iload_n hx hb dX4_block_1 rfl (lv_at hl 1 rfl) ?_
  refine rr_callV (As := [.int x]) C hN 29 (Nat.lt_of_lt_of_le (by decide) hNB) rfl rfl rfl (ct_X4_find0 l h hNn) gX4_block_X4_find rfl rfl rfl 1 (by decide +kernel) ⟨Nat.le_of_ble_eq_true rfl, Nat.le_of_ble_eq_true rfl⟩ rfl hl.1 rfl (Nat.le_of_ble_eq_true rfl) ⟨Nat.zero_le _, Nat.zero_le _⟩ dX4_block_2 (fun H locs hN => ?_)
  refine lv_astoreN (lv' := [(4, .null), (0, .ref (B 29)), (1, .int x), (2, .int y), (3, .int z)]) hx hb dX4_block_5 hl (by decide) rfl (fun ls hl => ?_)
  refine lv_aloadN hx hb dX4_block_7 (lv_at hl 0 rfl) ?_
  refine lv_ifnonnullN hx hb dX4_block_9 ?_
  refine lv_iconst (v := (-1)) hx hb dX4_block_12 (by decide) ?_
  exact rr_iret C hN dX4_block_13 rfl rfl
set_option maxHeartbeats 4000000 in
set_option maxRecDepth 100000 in
theorem ct_X4_silent0 (l : Launch) {D : va_G} {ca : Nat → ClassId} {B : Nat → Nat} {N n : Nat} {X : va_W} {u : ww_U} {x : Int32} (h : x < 1 ∨ u 29 1 < x) (z : Int32) (hNn : 36 + 8 * n ≤ N)  : ww_M l yX4_silent wsX4_silent ({ frames := 1, cells := 0, slots := 0, locals := 21 } : Room) D ca B N n X u [.ref (B 29), .int x, .int z] (some (.int (-1))) u := by
  refine ww_met (cc := cX4_silent) (maxL := 5) (ret := (some .int)) (by decide) rfl (Nat.le_of_ble_eq_true rfl) ?_
  intro p e s m args below meth c C hN ls hl
  have hl : lv_has ls 5 [(0, .ref (B 29)), (1, .int x), (2, .int z)] := hl
  have hx := C.1.1
  have hb := C.1.2.1
  have hNB : 36 ≤ N := by omega
  have hNN : 29 ≤ N := by omega
  refine lv_aload_n hx hb dX4_silent_0 rfl (lv_at hl 0 rfl) ?_
  refine lv_iload_n hx hb dX4_silent_1 rfl (lv_at hl 1 rfl) ?_
  refine rr_callV (As := [.int x]) C hN 29 (Nat.lt_of_lt_of_le (by decide) hNB) rfl rfl rfl (ct_X4_find0 l h hNn) gX4_silent_X4_find rfl rfl rfl 1 (by decide +kernel) ⟨Nat.le_of_ble_eq_true rfl, Nat.le_of_ble_eq_true rfl⟩ rfl hl.1 rfl (Nat.le_of_ble_eq_true rfl) ⟨Nat.zero_le _, Nat.zero_le _⟩ dX4_silent_2 (fun H locs hN => ?_)
  refine lv_astore_nN (lv' := [(3, .null), (0, .ref (B 29)), (1, .int x), (2, .int z)]) hx hb dX4_silent_5 rfl hl (by decide) rfl (fun ls hl => ?_)
  refine lv_aload_nN hx hb dX4_silent_6 rfl (lv_at hl 0 rfl) ?_
  refine lv_ifnonnullN hx hb dX4_silent_7 ?_
  refine lv_iconst (v := (-1)) hx hb dX4_silent_10 (by decide) ?_
  exact rr_iret C hN dX4_silent_11 rfl rfl
set_option maxHeartbeats 4000000 in
set_option maxRecDepth 100000 in
theorem ct_X4_counter0 (l : Launch) {D : va_G} {ca : Nat → ClassId} {B : Nat → Nat} {N n : Nat} {X : va_W} {u : ww_U} {x : Int32} (h : x < 1 ∨ u 29 1 < x) (hNn : 36 + 8 * n ≤ N)  : ww_M l yX4_counter wsX4_counter ({ frames := 1, cells := 0, slots := 0, locals := 21 } : Room) D ca B N n X u [.ref (B 29), .int x] (some (.int (-1))) u := by
  refine ww_met (cc := cX4_counter) (maxL := 3) (ret := (some .int)) (by decide) rfl (Nat.le_of_ble_eq_true rfl) ?_
  intro p e s m args below meth c C hN ls hl
  have hl : lv_has ls 3 [(0, .ref (B 29)), (1, .int x)] := hl
  have hx := C.1.1
  have hb := C.1.2.1
  have hNB : 36 ≤ N := by omega
  have hNN : 29 ≤ N := by omega
  refine lv_aload_n hx hb dX4_counter_0 rfl (lv_at hl 0 rfl) ?_
  refine lv_iload_n hx hb dX4_counter_1 rfl (lv_at hl 1 rfl) ?_
  refine rr_callV (As := [.int x]) C hN 29 (Nat.lt_of_lt_of_le (by decide) hNB) rfl rfl rfl (ct_X4_find0 l h hNn) gX4_counter_X4_find rfl rfl rfl 1 (by decide +kernel) ⟨Nat.le_of_ble_eq_true rfl, Nat.le_of_ble_eq_true rfl⟩ rfl hl.1 rfl (Nat.le_of_ble_eq_true rfl) ⟨Nat.zero_le _, Nat.zero_le _⟩ dX4_counter_2 (fun H locs hN => ?_)
  refine lv_astore_nN (lv' := [(2, .null), (0, .ref (B 29)), (1, .int x)]) hx hb dX4_counter_5 rfl hl (by decide) rfl (fun ls hl => ?_)
  refine lv_aload_nN hx hb dX4_counter_6 rfl (lv_at hl 0 rfl) ?_
  refine lv_ifnonnullN hx hb dX4_counter_7 ?_
  refine lv_iconst (v := (-1)) hx hb dX4_counter_10 (by decide) ?_
  exact rr_iret C hN dX4_counter_11 rfl rfl
set_option maxHeartbeats 4000000 in
set_option maxRecDepth 100000 in
theorem ct_X4_boot0 (l : Launch) {D : va_G} {ca : Nat → ClassId} {B : Nat → Nat} {N n : Nat} {X : va_W} {u : ww_U} {x : Int32} (h : x < 1 ∨ u 29 1 < x) (hNn : 36 + 8 * n ≤ N)  : ww_M l yX4_boot wsX4_boot ({ frames := 3, cells := 0, slots := 0, locals := 65 } : Room) D ca B N n X u [.ref (B 29), .int x] (some (.int (-1))) u := by
  refine ww_met (cc := cX4_boot) (maxL := 3) (ret := (some .int)) (by decide) rfl (Nat.le_of_ble_eq_true rfl) ?_
  intro p e s m args below meth c C hN ls hl
  have hl : lv_has ls 3 [(0, .ref (B 29)), (1, .int x)] := hl
  have hx := C.1.1
  have hb := C.1.2.1
  have hNB : 36 ≤ N := by omega
  have hNN : 29 ≤ N := by omega
  refine lv_aload_n hx hb dX4_boot_0 rfl (lv_at hl 0 rfl) ?_
  refine lv_iload_n hx hb dX4_boot_1 rfl (lv_at hl 1 rfl) ?_
  refine rr_callV (As := [.int x]) C hN 29 (Nat.lt_of_lt_of_le (by decide) hNB) rfl rfl rfl (ct_X4_find0 l h hNn) gX4_boot_X4_find rfl rfl rfl 1 (by decide +kernel) ⟨Nat.le_of_ble_eq_true rfl, Nat.le_of_ble_eq_true rfl⟩ rfl hl.1 rfl (Nat.le_of_ble_eq_true rfl) ⟨Nat.zero_le _, Nat.zero_le _⟩ dX4_boot_2 (fun H locs hN => ?_)
  refine lv_astore_nN (lv' := [(2, .null), (0, .ref (B 29)), (1, .int x)]) hx hb dX4_boot_5 rfl hl (by decide) rfl (fun ls hl => ?_)
  refine lv_aload_nN hx hb dX4_boot_6 rfl (lv_at hl 0 rfl) ?_
  refine lv_ifnonnullN hx hb dX4_boot_7 ?_
  refine lv_iconst (v := (-1)) hx hb dX4_boot_10 (by decide) ?_
  exact rr_iret C hN dX4_boot_11 rfl rfl
def cu_block (u : ww_U) (j : Nat) (y z : Int32) : ww_U × Int32 := if y < 0 then (u, -2) else if 16 ≤ y then (u, -2) else if z = 0 then (u, -2) else (ww_up (ww_up u (kC j) 7 y) (kC j) 8 z, 1)
def cu_silent (u : ww_U) (j : Nat) (z : Int32) : Int32 := if u (kC j) 6 = z then 0 else 1
set_option maxRecDepth 20000 in
theorem kw_X4_block_X1 : ww_K wsX4_block RX1 TX1 10 tyX1 := ⟨by decide +kernel, tyX1_ok, nmX1⟩
set_option maxHeartbeats 4000000 in
set_option maxRecDepth 100000 in
theorem ct_X4_block (l : Launch) {D : va_G} {ca : Nat → ClassId} {B : Nat → Nat} {N n : Nat} {X : va_W} {u : ww_U} {x : Int32} (j : Nat) (hj : j < 8) (hj2 : j < n) (hxj : x = nI (j + 1)) (hx1 : ¬ x < 1) (hx2 : x ≤ u 29 1) (y z : Int32) (hby : z.toInt8.toInt32 = z) (hNn : 36 + 8 * n ≤ N)  : ww_M l yX4_block wsX4_block ({ frames := 1, cells := 0, slots := 0, locals := 21 } : Room) D ca B N n X u [.ref (B 29), .int x, .int y, .int z] (some (.int (cu_block u j y z).2)) (cu_block u j y z).1 := by
  refine ww_met (cc := cX4_block) (maxL := 5) (ret := (some .int)) (by decide) rfl (Nat.le_of_ble_eq_true rfl) ?_
  intro p e s m args below meth c C hN ls hl
  have hl : lv_has ls 5 [(0, .ref (B 29)), (1, .int x), (2, .int y), (3, .int z)] := hl
  have hx := C.1.1
  have hb := C.1.2.1
  have hNB : 36 ≤ N := by omega
  have hNN : 29 ≤ N := by omega
  refine lv_aload_n hx hb dX4_block_0 rfl (lv_at hl 0 rfl) ?_
  refine lv_iload_n hx hb dX4_block_1 rfl (lv_at hl 1 rfl) ?_
  refine rr_callV (As := [.int x]) C hN 29 (Nat.lt_of_lt_of_le (by decide) hNB) rfl rfl rfl (ct_X4_find l j hj hj2 hxj hNn hx1 hx2) gX4_block_X4_find rfl rfl rfl 1 (by decide +kernel) ⟨Nat.le_of_ble_eq_true rfl, Nat.le_of_ble_eq_true rfl⟩ rfl hl.1 rfl (Nat.le_of_ble_eq_true rfl) ⟨Nat.zero_le _, Nat.zero_le _⟩ dX4_block_2 (fun H locs hN => ?_)
  refine lv_astore (lv' := [(4, .ref (B (kC j))), (0, .ref (B 29)), (1, .int x), (2, .int y), (3, .int z)]) hx hb dX4_block_5 hl (by decide) rfl (fun ls hl => ?_)
  refine lv_aload hx hb dX4_block_7 (lv_at hl 0 rfl) ?_
  refine lv_ifnonnull (tgt := 14) hx hb dX4_block_9 (by decide) ?_
  refine lv_iload_n hx hb dX4_block_14 rfl (lv_at hl 3 rfl) ?_
  refine lv_if_lt (tgt := 28) hx hb dX4_block_15 (by decide) (fun c_15 => ?_) (fun c_15 => ?_)
  · refine lv_bipush (v := (-2)) hx hb dX4_block_28 (by decide) ?_
    exact rr_iret C hN dX4_block_30 (by subst_vars; first | rfl | (simp only [cu_block]; done) | (simp only [cu_block]; (repeat' split) <;> first | rfl | contradiction | simp_all)) (by subst_vars; first | rfl | (simp only [cu_block]; done) | (simp only [cu_block]; (repeat' split) <;> first | rfl | contradiction | simp_all))
  · refine lv_iload_n hx hb dX4_block_18 rfl (lv_at hl 3 rfl) ?_
    refine lv_bipush (v := 16) hx hb dX4_block_19 (by decide) ?_
    refine lv_icmp_ge (tgt := 28) hx hb dX4_block_21 (by decide) (fun c_21 => ?_) (fun c_21 => ?_)
    · refine lv_bipush (v := (-2)) hx hb dX4_block_28 (by decide) ?_
      exact rr_iret C hN dX4_block_30 (by subst_vars; first | rfl | (simp only [cu_block]; done) | (simp only [cu_block]; (repeat' split) <;> first | rfl | contradiction | simp_all)) (by subst_vars; first | rfl | (simp only [cu_block]; done) | (simp only [cu_block]; (repeat' split) <;> first | rfl | contradiction | simp_all))
    · refine lv_iload_n hx hb dX4_block_24 rfl (lv_at hl 4 rfl) ?_
      refine lv_if_ne (tgt := 31) hx hb dX4_block_25 (by decide) (fun c_25 => ?_) (fun c_25 => ?_)
      · refine lv_aload hx hb dX4_block_31 (lv_at hl 0 rfl) ?_
        refine lv_iload_n hx hb dX4_block_33 rfl (lv_at hl 3 rfl) ?_
        refine rr_put C hN (kC j) (kC_lt hNn hj2) hC_ce rfl kw_X4_block_X1 7 (by decide) (List.mem_of_getElem? (i := 1) rfl) rfl (x := y) rfl rfl (Nat.le_of_ble_eq_true rfl) (hC_ce.trans rfl) dX4_block_34 (fun u1 eu1 H locs hN => ?_)
        refine lv_aload hx hb dX4_block_37 (lv_at hl 0 rfl) ?_
        refine lv_iload_n hx hb dX4_block_39 rfl (lv_at hl 4 rfl) ?_
        refine rr_put C hN (kC j) (kC_lt hNn hj2) hC_ce rfl kw_X4_block_X1 8 (by decide) (List.mem_of_getElem? (i := 2) rfl) rfl (x := z) (by rw [← hby]; exact pk_nb _) (by rw [← hby]; exact pk_fb _) (Nat.le_of_ble_eq_true rfl) (hC_ce.trans rfl) dX4_block_40 (fun u2 eu2 H locs hN => ?_)
        refine lv_iconst (v := 1) hx hb dX4_block_43 (by decide) ?_
        exact rr_iret C hN dX4_block_44 (by subst_vars; first | rfl | (simp only [cu_block]; done) | (simp only [cu_block]; (repeat' split) <;> first | rfl | contradiction | simp_all)) (by subst_vars; first | rfl | (simp only [cu_block]; done) | (simp only [cu_block]; (repeat' split) <;> first | rfl | contradiction | simp_all))
      · refine lv_bipush (v := (-2)) hx hb dX4_block_28 (by decide) ?_
        exact rr_iret C hN dX4_block_30 (by subst_vars; first | rfl | (simp only [cu_block]; done) | (simp only [cu_block]; (repeat' split) <;> first | rfl | contradiction | simp_all)) (by subst_vars; first | rfl | (simp only [cu_block]; done) | (simp only [cu_block]; (repeat' split) <;> first | rfl | contradiction | simp_all))
set_option maxRecDepth 20000 in
theorem kw_X4_silent_X1 : ww_K wsX4_silent RX1 TX1 10 tyX1 := ⟨by decide +kernel, tyX1_ok, nmX1⟩
set_option maxHeartbeats 4000000 in
set_option maxRecDepth 100000 in
theorem ct_X4_silent (l : Launch) {D : va_G} {ca : Nat → ClassId} {B : Nat → Nat} {N n : Nat} {X : va_W} {u : ww_U} {x : Int32} (j : Nat) (hj : j < 8) (hj2 : j < n) (hxj : x = nI (j + 1)) (hx1 : ¬ x < 1) (hx2 : x ≤ u 29 1) (z : Int32) (hz : z = 0 ∨ z = 1) (hNn : 36 + 8 * n ≤ N)  : ww_M l yX4_silent wsX4_silent ({ frames := 1, cells := 0, slots := 0, locals := 21 } : Room) D ca B N n X u [.ref (B 29), .int x, .int z] (some (.int (cu_silent u j z))) (ww_up u (kC j) 6 z) := by
  refine ww_met (cc := cX4_silent) (maxL := 5) (ret := (some .int)) (by decide) rfl (Nat.le_of_ble_eq_true rfl) ?_
  intro p e s m args below meth c C hN ls hl
  have hl : lv_has ls 5 [(0, .ref (B 29)), (1, .int x), (2, .int z)] := hl
  have hx := C.1.1
  have hb := C.1.2.1
  have hNB : 36 ≤ N := by omega
  have hNN : 29 ≤ N := by omega
  refine lv_aload_n hx hb dX4_silent_0 rfl (lv_at hl 0 rfl) ?_
  refine lv_iload_n hx hb dX4_silent_1 rfl (lv_at hl 1 rfl) ?_
  refine rr_callV (As := [.int x]) C hN 29 (Nat.lt_of_lt_of_le (by decide) hNB) rfl rfl rfl (ct_X4_find l j hj hj2 hxj hNn hx1 hx2) gX4_silent_X4_find rfl rfl rfl 1 (by decide +kernel) ⟨Nat.le_of_ble_eq_true rfl, Nat.le_of_ble_eq_true rfl⟩ rfl hl.1 rfl (Nat.le_of_ble_eq_true rfl) ⟨Nat.zero_le _, Nat.zero_le _⟩ dX4_silent_2 (fun H locs hN => ?_)
  refine lv_astore_n (lv' := [(3, .ref (B (kC j))), (0, .ref (B 29)), (1, .int x), (2, .int z)]) hx hb dX4_silent_5 rfl hl (by decide) rfl (fun ls hl => ?_)
  refine lv_aload_n hx hb dX4_silent_6 rfl (lv_at hl 0 rfl) ?_
  refine lv_ifnonnull (tgt := 12) hx hb dX4_silent_7 (by decide) ?_
  refine lv_aload_n hx hb dX4_silent_12 rfl (lv_at hl 0 rfl) ?_
  refine rr_get C hN (kC j) (kC_lt hNn hj2) hC_ce rfl kw_X4_silent_X1 6 (by decide) (List.mem_of_getElem? (i := 1) rfl) (v := .int (u (kC j) 6)) rfl dX4_silent_13 ?_
  refine lv_iload_n hx hb dX4_silent_16 rfl (lv_at hl 3 rfl) ?_
  refine lv_icmp_eq (tgt := 24) hx hb dX4_silent_17 (by decide) (fun c_17 => ?_) (fun c_17 => ?_)
  · refine lv_iconst (v := 0) hx hb dX4_silent_24 (by decide) ?_
    refine lv_istore (lv' := [(4, .int 0), (3, .ref (B (kC j))), (0, .ref (B 29)), (1, .int x), (2, .int z)]) hx hb dX4_silent_25 hl (by decide) rfl (fun ls hl => ?_)
    refine lv_aload_n hx hb dX4_silent_27 rfl (lv_at hl 1 rfl) ?_
    refine lv_iload_n hx hb dX4_silent_28 rfl (lv_at hl 4 rfl) ?_
    refine rr_put C hN (kC j) (kC_lt hNn hj2) hC_ce rfl kw_X4_silent_X1 6 (by decide) (List.mem_of_getElem? (i := 1) rfl) rfl (x := z) (by rcases hz with rfl | rfl <;> rfl) (by rcases hz with rfl | rfl <;> rfl) (Nat.le_of_ble_eq_true rfl) (hC_ce.trans rfl) dX4_silent_29 (fun u1 eu1 H locs hN => ?_)
    refine lv_iload hx hb dX4_silent_32 (lv_at hl 0 rfl) ?_
    refine lv_if_eq (tgt := 41) hx hb dX4_silent_34 (by decide) (fun c_34 => ?_) (fun c_34 => absurd c_34 (by decide))
    refine lv_iconst (v := 0) hx hb dX4_silent_41 (by decide) ?_
    exact rr_iret C hN dX4_silent_42 (by subst_vars; first | rfl | (simp only [cu_silent]; done) | (simp only [cu_silent]; (repeat' split) <;> first | rfl | contradiction | simp_all)) (by subst_vars; first | rfl | (done) | ((repeat' split) <;> first | rfl | contradiction | simp_all))
  · refine lv_iconst (v := 1) hx hb dX4_silent_20 (by decide) ?_
    refine lv_goto (tgt := 25) hx hb dX4_silent_21 (by decide) ?_
    refine lv_istore (lv' := [(4, .int 1), (3, .ref (B (kC j))), (0, .ref (B 29)), (1, .int x), (2, .int z)]) hx hb dX4_silent_25 hl (by decide) rfl (fun ls hl => ?_)
    refine lv_aload_n hx hb dX4_silent_27 rfl (lv_at hl 1 rfl) ?_
    refine lv_iload_n hx hb dX4_silent_28 rfl (lv_at hl 4 rfl) ?_
    refine rr_put C hN (kC j) (kC_lt hNn hj2) hC_ce rfl kw_X4_silent_X1 6 (by decide) (List.mem_of_getElem? (i := 1) rfl) rfl (x := z) (by rcases hz with rfl | rfl <;> rfl) (by rcases hz with rfl | rfl <;> rfl) (Nat.le_of_ble_eq_true rfl) (hC_ce.trans rfl) dX4_silent_29 (fun u2 eu2 H locs hN => ?_)
    refine lv_iload hx hb dX4_silent_32 (lv_at hl 0 rfl) ?_
    refine lv_if_eq (tgt := 41) hx hb dX4_silent_34 (by decide) (fun c_34 => absurd c_34 (by decide)) (fun c_34 => ?_)
    refine lv_iconst (v := 1) hx hb dX4_silent_37 (by decide) ?_
    refine lv_goto (tgt := 42) hx hb dX4_silent_38 (by decide) ?_
    exact rr_iret C hN dX4_silent_42 (by subst_vars; first | rfl | (simp only [cu_silent]; done) | (simp only [cu_silent]; (repeat' split) <;> first | rfl | contradiction | simp_all)) (by subst_vars; first | rfl | (done) | ((repeat' split) <;> first | rfl | contradiction | simp_all))
set_option maxRecDepth 20000 in
theorem kw_X4_counter_X1 : ww_K wsX4_counter RX1 TX1 10 tyX1 := ⟨by decide +kernel, tyX1_ok, nmX1⟩
set_option maxHeartbeats 4000000 in
set_option maxRecDepth 100000 in
theorem ct_X4_counter (l : Launch) {D : va_G} {ca : Nat → ClassId} {B : Nat → Nat} {N n : Nat} {X : va_W} {u : ww_U} {x : Int32} (j : Nat) (hj : j < 8) (hj2 : j < n) (hxj : x = nI (j + 1)) (hx1 : ¬ x < 1) (hx2 : x ≤ u 29 1) (hNn : 36 + 8 * n ≤ N)  : ww_M l yX4_counter wsX4_counter ({ frames := 1, cells := 0, slots := 0, locals := 21 } : Room) D ca B N n X u [.ref (B 29), .int x] (some (.int (u (kC j) 4))) u := by
  refine ww_met (cc := cX4_counter) (maxL := 3) (ret := (some .int)) (by decide) rfl (Nat.le_of_ble_eq_true rfl) ?_
  intro p e s m args below meth c C hN ls hl
  have hl : lv_has ls 3 [(0, .ref (B 29)), (1, .int x)] := hl
  have hx := C.1.1
  have hb := C.1.2.1
  have hNB : 36 ≤ N := by omega
  have hNN : 29 ≤ N := by omega
  refine lv_aload_n hx hb dX4_counter_0 rfl (lv_at hl 0 rfl) ?_
  refine lv_iload_n hx hb dX4_counter_1 rfl (lv_at hl 1 rfl) ?_
  refine rr_callV (As := [.int x]) C hN 29 (Nat.lt_of_lt_of_le (by decide) hNB) rfl rfl rfl (ct_X4_find l j hj hj2 hxj hNn hx1 hx2) gX4_counter_X4_find rfl rfl rfl 1 (by decide +kernel) ⟨Nat.le_of_ble_eq_true rfl, Nat.le_of_ble_eq_true rfl⟩ rfl hl.1 rfl (Nat.le_of_ble_eq_true rfl) ⟨Nat.zero_le _, Nat.zero_le _⟩ dX4_counter_2 (fun H locs hN => ?_)
  refine lv_astore_n (lv' := [(2, .ref (B (kC j))), (0, .ref (B 29)), (1, .int x)]) hx hb dX4_counter_5 rfl hl (by decide) rfl (fun ls hl => ?_)
  refine lv_aload_n hx hb dX4_counter_6 rfl (lv_at hl 0 rfl) ?_
  refine lv_ifnonnull (tgt := 12) hx hb dX4_counter_7 (by decide) ?_
  refine lv_aload_n hx hb dX4_counter_12 rfl (lv_at hl 0 rfl) ?_
  refine rr_get C hN (kC j) (kC_lt hNn hj2) hC_ce rfl kw_X4_counter_X1 4 (by decide) (List.mem_of_getElem? (i := 1) rfl) (v := .int (u (kC j) 4)) rfl dX4_counter_13 ?_
  exact rr_iret C hN dX4_counter_16 rfl rfl
end
section
set_option maxRecDepth 20000 in
theorem kw_X1_completeBank_X0 : ww_K wsX1_completeBank RX0 TX0 3 tyX0 := ⟨by decide +kernel, tyX0_ok, nmX0⟩
set_option maxRecDepth 20000 in
theorem kw_X1_completeBank_X1 : ww_K wsX1_completeBank RX1 TX1 10 tyX1 := ⟨by decide +kernel, tyX1_ok, nmX1⟩
set_option maxRecDepth 20000 in
theorem kw_X1_completeBank_X3 : ww_K wsX1_completeBank RX3 TX3 8 tyX3 := ⟨by decide +kernel, tyX3_ok, nmX3⟩
set_option maxHeartbeats 4000000 in
set_option maxRecDepth 100000 in
theorem lp_X1_completeBank {p : Program} {l : Launch} {e : Env} {s : State} {m : MethodId} {args : Array Value} {below : List Frame} {meth : Method} {c : Code} {D : va_G} {ca : Nat → ClassId} {B : Nat → Nat} {N n : Nat} {X : va_W} (C : ww_C D ca yX1_completeBank.cls cX1_completeBank 3 wsX1_completeBank none (ww_A B N X s.heap.size) p s m args meth c) (hNn : 36 + 8 * n ≤ N) {i : Nat} (hi : i < n) {b : Nat} (hb2 : b < 2)  {r : Option Value} {u' : ww_U} : ∀ (d k : Nat) (x : Int32) (u : ww_U), k + d = 256 → (x = nI k) → r = none → u' = ww_up (ww_up (ww_up (cu_zero d k i b u) (kB i b) 1 (cu_zero d k i b u (kP i) 3)) (kB i b) 2 (ww_up (cu_zero d k i b u) (kB i b) 1 (cu_zero d k i b u (kP i) 3) (kP i) 2)) (kP i) 4 2 → ∀ (H : Heap) (locs : List Loc) (ls : Array Slot), ww_N D ca B N n u X (ww_A B N X s.heap.size) s.heap H locs → lv_has ls 3 [(0, .ref (B (kC i))), (1, .ref (B (kB i b))), (2, .int x)] → W p l e (headSpec wsX1_completeBank ({ frames := 0, cells := 0, slots := 0, locals := 0 } : Room)).room s m args below meth c H locs 0 0 (MQ below (ww_Q D ca B N n X s.heap.size r u') args s 0 0 (ww_A B N X s.heap.size)) (F0 m 8 ls []) := by
  have hx := C.1.1
  have hb := C.1.2.1
  have hNB : 36 ≤ N := by omega
  have hNN : 29 ≤ N := by omega
  intro d
  induction d with
  | zero =>
    intro k x u hkd hxk hr hu H locs ls hN hl
    refine lv_iload_n hx hb dX1_completeBank_8 rfl (lv_at hl 2 rfl) ?_
    refine lv_sipush (v := 256) hx hb dX1_completeBank_9 (by decide) ?_
    refine lv_icmp_ge (tgt := 28) hx hb dX1_completeBank_12 (by decide) (fun c_12 => ?_) (fun c_12 => absurd c_12 (fun h => h (by rw [hxk, show k = 256 by omega]; decide)))
    refine lv_aload_n hx hb dX1_completeBank_28 rfl (lv_at hl 1 rfl) ?_
    refine lv_aload_n hx hb dX1_completeBank_29 rfl (lv_at hl 0 rfl) ?_
    refine rr_get C hN (kC i) (kC_lt hNn hi) hC_ce rfl kw_X1_completeBank_X1 2 (by decide) (List.mem_of_getElem? (i := 1) rfl) (v := .ref (B (kP i))) rfl dX1_completeBank_30 ?_
    refine rr_get C hN (kP i) (kP_lt hNn hi) hP_ce rfl kw_X1_completeBank_X3 3 (by decide) (List.mem_of_getElem? (i := 4) rfl) (v := .int (u (kP i) 3)) rfl dX1_completeBank_33 ?_
    refine rr_put C hN (kB i b) (kB_lt hNn hi hb2) (hB_ce hb2) rfl kw_X1_completeBank_X0 1 (by decide) (List.mem_of_getElem? (i := 5) rfl) rfl (x := (u (kP i) 3)) rfl rfl (Nat.le_of_ble_eq_true rfl) ((hB_ce hb2).trans rfl) dX1_completeBank_36 (fun uz1 euz1 H locs hN => ?_)
    refine lv_aload_n hx hb dX1_completeBank_39 rfl (lv_at hl 1 rfl) ?_
    refine lv_aload_n hx hb dX1_completeBank_40 rfl (lv_at hl 0 rfl) ?_
    refine rr_get C hN (kC i) (kC_lt hNn hi) hC_ce rfl kw_X1_completeBank_X1 2 (by decide) (List.mem_of_getElem? (i := 1) rfl) (v := .ref (B (kP i))) rfl dX1_completeBank_41 ?_
    refine rr_get C hN (kP i) (kP_lt hNn hi) hP_ce rfl kw_X1_completeBank_X3 2 (by decide) (List.mem_of_getElem? (i := 6) rfl) (v := .int (uz1 (kP i) 2)) rfl dX1_completeBank_44 ?_
    refine rr_put C hN (kB i b) (kB_lt hNn hi hb2) (hB_ce hb2) rfl kw_X1_completeBank_X0 2 (by decide) (List.mem_of_getElem? (i := 7) rfl) rfl (x := (uz1 (kP i) 2)) rfl rfl (Nat.le_of_ble_eq_true rfl) ((hB_ce hb2).trans rfl) dX1_completeBank_47 (fun uz2 euz2 H locs hN => ?_)
    refine lv_aload_n hx hb dX1_completeBank_50 rfl (lv_at hl 0 rfl) ?_
    refine rr_get C hN (kC i) (kC_lt hNn hi) hC_ce rfl kw_X1_completeBank_X1 2 (by decide) (List.mem_of_getElem? (i := 1) rfl) (v := .ref (B (kP i))) rfl dX1_completeBank_51 ?_
    refine lv_iconst (v := 2) hx hb dX1_completeBank_54 (by decide) ?_
    refine rr_put C hN (kP i) (kP_lt hNn hi) hP_ce rfl kw_X1_completeBank_X3 4 (by decide) (List.mem_of_getElem? (i := 8) rfl) rfl (x := 2) rfl rfl (Nat.le_of_ble_eq_true rfl) (hP_ce.trans rfl) dX1_completeBank_55 (fun uz3 euz3 H locs hN => ?_)
    exact rr_vret C hN dX1_completeBank_58 hr (hu.trans (by subst_vars; rfl))
  | succ d ih =>
    intro k x u hkd hxk hr hu H locs ls hN hl
    refine lv_iload_n hx hb dX1_completeBank_8 rfl (lv_at hl 2 rfl) ?_
    refine lv_sipush (v := 256) hx hb dX1_completeBank_9 (by decide) ?_
    refine lv_icmp_ge (tgt := 28) hx hb dX1_completeBank_12 (by decide) (fun c_12 => absurd c_12 (by rw [hxk]; exact (show ¬ nI 256 ≤ nI k from nI_ge (by omega) (by decide)))) (fun c_12 => ?_)
    refine lv_aload_n hx hb dX1_completeBank_15 rfl (lv_at hl 1 rfl) ?_
    refine rr_get C hN (kB i b) (kB_lt hNn hi hb2) (hB_ce hb2) rfl kw_X1_completeBank_X0 0 (by decide) (List.mem_of_getElem? (i := 3) rfl) (v := .ref (B (kO i b))) rfl dX1_completeBank_16 ?_
    refine lv_iload_n hx hb dX1_completeBank_19 rfl (lv_at hl 2 rfl) ?_
    refine lv_iconst (v := 0) hx hb dX1_completeBank_20 (by decide) ?_
    refine rr_bast C hN (kO i b) (kO_lt hNn hi hb2) (fun _ => hO_ce hb2) (by decide) k (by omega) hxk dX1_completeBank_21 (fun us1 eus1 H locs hN => ?_)
    obtain ⟨vs2, evs2⟩ : ∃ y : Int32, y = x + 1 := ⟨_, rfl⟩
    refine lv_iinc (v := vs2) (lv' := [(2, .int vs2), (0, .ref (B (kC i))), (1, .ref (B (kB i b)))]) hx hb dX1_completeBank_22 hl (k := 2) rfl (by rw [evs2]; rfl) (by decide) rfl (fun ls hl => ?_)
    refine lv_goto (tgt := 8) hx hb dX1_completeBank_25 (by decide) ?_
    exact ih (k + 1) vs2 us1 (by omega) (by rw [evs2, hxk]; exact nI_1 k) (hr.trans (by subst_vars; first | rfl | (simp only [cu_zero]; done) | (simp only [cu_zero]; (repeat' split) <;> first | rfl | contradiction | simp_all))) (hu.trans (by subst_vars; first | rfl | (simp only [cu_zero]; done) | (simp only [cu_zero]; (repeat' split) <;> first | rfl | contradiction | simp_all))) H locs ls hN (lv_sub hl [1, 2, 0] rfl)
set_option maxHeartbeats 4000000 in
set_option maxRecDepth 100000 in
theorem ct_X1_completeBank (l : Launch) {D : va_G} {ca : Nat → ClassId} {B : Nat → Nat} {N n : Nat} {X : va_W} {u : ww_U} {i : Nat} (hi : i < n) {b : Nat} (hb2 : b < 2) {len : Nat} (hlen : len ≤ 256) (hle : u (kP i) 1 = nI len) (hNn : 36 + 8 * n ≤ N)  : ww_M l yX1_completeBank wsX1_completeBank ({ frames := 0, cells := 0, slots := 0, locals := 0 } : Room) D ca B N n X u [.ref (B (kC i)), .ref (B (kB i b))] none (cu_comp u i b len) := by
  refine ww_met (cc := cX1_completeBank) (maxL := 3) (ret := none) (by decide) rfl (Nat.le_of_ble_eq_true rfl) ?_
  intro p e s m args below meth c C hN ls hl
  have hl : lv_has ls 3 [(0, .ref (B (kC i))), (1, .ref (B (kB i b)))] := hl
  have hx := C.1.1
  have hb := C.1.2.1
  have hNB : 36 ≤ N := by omega
  have hNN : 29 ≤ N := by omega
  refine lv_aload_n hx hb dX1_completeBank_0 rfl (lv_at hl 0 rfl) ?_
  refine rr_get C hN (kC i) (kC_lt hNn hi) hC_ce rfl kw_X1_completeBank_X1 2 (by decide) (List.mem_of_getElem? (i := 1) rfl) (v := .ref (B (kP i))) rfl dX1_completeBank_1 ?_
  refine rr_get C hN (kP i) (kP_lt hNn hi) hP_ce rfl kw_X1_completeBank_X3 1 (by decide) (List.mem_of_getElem? (i := 2) rfl) (v := .int (u (kP i) 1)) rfl dX1_completeBank_4 ?_
  refine lv_istore_n (lv' := [(2, .int (u (kP i) 1)), (0, .ref (B (kC i))), (1, .ref (B (kB i b)))]) hx hb dX1_completeBank_7 rfl hl (by decide) rfl (fun ls hl => ?_)
  exact lp_X1_completeBank C hNn hi hb2 (256 - len) len (u (kP i) 1) u (by omega) hle rfl rfl _ _ _ hN (lv_sub hl [1, 2, 0] rfl)
theorem cu_ifx {x y : ww_U} (a l : Nat) : (if a < l then x else y) = (if min a l = l then y else x) := by
  by_cases h : a < l
  · rw [if_pos h, if_neg (by omega)]
  · rw [if_neg h, if_pos (by omega)]
theorem cu_wl_q {d k i b : Nat} {f : Int32} {u : ww_U} : cu_wl d k i b f u (kP i) = u (kP i) := cu_wl_ne (by simp only [kP, kO]; omega)
theorem cu_wl_c {d k i b : Nat} {f : Int32} {u : ww_U} : cu_wl d k i b f u (kC i) = u (kC i) := cu_wl_ne (by simp only [kC, kO]; omega)
theorem cu_min {w len : Nat} {a c : Int32} (hl : len ≤ 256) (hw : 16 * w < len) (ha : a = nI (16 * w + 16)) (hc : c = nI len) : (if c < a then c else a) = nI (min (16 * w + 16) len) := by
  rw [ha, hc]
  by_cases h : len < 16 * w + 16
  · rw [if_pos (nI_lt h (by omega))]; congr 1; omega
  · rw [if_neg (nI_nlt (by omega) (by omega))]; congr 1; omega
set_option maxRecDepth 20000 in
theorem kw_X1_writeNextBlock_X1 : ww_K wsX1_writeNextBlock RX1 TX1 10 tyX1 := ⟨by decide +kernel, tyX1_ok, nmX1⟩
set_option maxRecDepth 20000 in
theorem kw_X1_writeNextBlock_X3 : ww_K wsX1_writeNextBlock RX3 TX3 8 tyX3 := ⟨by decide +kernel, tyX3_ok, nmX3⟩
set_option maxRecDepth 20000 in
theorem kw_X1_writeNextBlock_X0 : ww_K wsX1_writeNextBlock RX0 TX0 3 tyX0 := ⟨by decide +kernel, tyX0_ok, nmX0⟩
set_option maxHeartbeats 4000000 in
set_option maxRecDepth 100000 in
theorem lp_X1_writeNextBlock {p : Program} {l : Launch} {e : Env} {s : State} {m : MethodId} {args : Array Value} {below : List Frame} {meth : Method} {c : Code} {D : va_G} {ca : Nat → ClassId} {B : Nat → Nat} {N n : Nat} {X : va_W} (C : ww_C D ca yX1_writeNextBlock.cls cX1_writeNextBlock 7 wsX1_writeNextBlock none (ww_A B N X s.heap.size) p s m args meth c) (hNn : 36 + 8 * n ≤ N) {i : Nat} (hi : i < n) {b : Nat} (hb2 : b < 2) {e1 len : Nat} (hlen : len ≤ 256) (he1 : e1 ≤ len) (fr en fq fl w5 : Int32) (hen : en = nI e1)  {r : Option Value} {u' : ww_U} : ∀ (d k : Nat) (x : Int32) (u : ww_U), k + d = e1 → (x = nI k) → (u (kP i) 1 = nI len) → (u (kP i) 5 = w5) → r = none → u' = (if fq = 0 then (if e1 = len then cu_comp (ww_up (cu_wl d k i b fl u) (kP i) 5 (w5 + 1)) i b len else ww_up (cu_wl d k i b fl u) (kP i) 5 (w5 + 1)) else ww_up (cu_wl d k i b fl u) (kC i) 8 0) → ∀ (H : Heap) (locs : List Loc) (ls : Array Slot), ww_N D ca B N n u X (ww_A B N X s.heap.size) s.heap H locs → lv_has ls 7 [(0, .ref (B (kC i))), (1, .ref (B (kB i b))), (2, .int fr), (3, .int en), (4, .int fq), (5, .int fl), (6, .int x)] → W p l e (headSpec wsX1_writeNextBlock ({ frames := 1, cells := 0, slots := 0, locals := 40 } : Room)).room s m args below meth c H locs 0 0 (MQ below (ww_Q D ca B N n X s.heap.size r u') args s 0 0 (ww_A B N X s.heap.size)) (F0 m 84 ls []) := by
  have hx := C.1.1
  have hb := C.1.2.1
  have hNB : 36 ≤ N := by omega
  have hNN : 29 ≤ N := by omega
  intro d
  induction d with
  | zero =>
    intro k x u hkd hxk hle hw5 hr hu H locs ls hN hl
    refine lv_iload hx hb dX1_writeNextBlock_84 (lv_at hl 6 rfl) ?_
    refine lv_iload_n hx hb dX1_writeNextBlock_86 rfl (lv_at hl 3 rfl) ?_
    refine lv_icmp_ge (tgt := 117) hx hb dX1_writeNextBlock_87 (by decide) (fun c_87 => ?_) (fun c_87 => absurd c_87 (fun h => h (by rw [hen, hxk, show k = e1 by omega]; exact nI_le (Nat.le_refl _) (by omega))))
    refine lv_iload hx hb dX1_writeNextBlock_117 (lv_at hl 4 rfl) ?_
    refine lv_if_eq (tgt := 128) hx hb dX1_writeNextBlock_119 (by decide) (fun c_119 => ?_) (fun c_119 => ?_)
    · refine lv_aload_n hx hb dX1_writeNextBlock_128 rfl (lv_at hl 0 rfl) ?_
      refine rr_get C hN (kC i) (kC_lt hNn hi) hC_ce rfl kw_X1_writeNextBlock_X1 2 (by decide) (List.mem_of_getElem? (i := 3) rfl) (v := .ref (B (kP i))) rfl dX1_writeNextBlock_129 ?_
      refine lv_dup hx hb dX1_writeNextBlock_132 rfl ?_
      refine rr_get C hN (kP i) (kP_lt hNn hi) hP_ce rfl kw_X1_writeNextBlock_X3 5 (by decide) (List.mem_of_getElem? (i := 4) rfl) (v := .int (u (kP i) 5)) rfl dX1_writeNextBlock_133 ?_
      refine lv_iconst (v := 1) hx hb dX1_writeNextBlock_136 (by decide) ?_
      refine lv_iadd hx hb dX1_writeNextBlock_137 ?_
      refine lv_topi (fun vz1 evz1 => ?_)
      refine rr_put C hN (kP i) (kP_lt hNn hi) hP_ce rfl kw_X1_writeNextBlock_X3 5 (by decide) (List.mem_of_getElem? (i := 4) rfl) rfl (x := vz1) rfl rfl (Nat.le_of_ble_eq_true rfl) (hP_ce.trans rfl) dX1_writeNextBlock_138 (fun uz2 euz2 H locs hN => ?_)
      refine lv_iload_n hx hb dX1_writeNextBlock_141 rfl (lv_at hl 3 rfl) ?_
      refine lv_aload_n hx hb dX1_writeNextBlock_142 rfl (lv_at hl 0 rfl) ?_
      refine rr_get C hN (kC i) (kC_lt hNn hi) hC_ce rfl kw_X1_writeNextBlock_X1 2 (by decide) (List.mem_of_getElem? (i := 3) rfl) (v := .ref (B (kP i))) rfl dX1_writeNextBlock_143 ?_
      refine rr_get C hN (kP i) (kP_lt hNn hi) hP_ce rfl kw_X1_writeNextBlock_X3 1 (by decide) (List.mem_of_getElem? (i := 5) rfl) (v := .int (uz2 (kP i) 1)) rfl dX1_writeNextBlock_146 ?_
      refine lv_icmp_ne (tgt := 157) hx hb dX1_writeNextBlock_149 (by decide) (fun c_149 => ?_) (fun c_149 => ?_)
      · exact rr_vret C hN dX1_writeNextBlock_157 hr (hu.trans (by first | (rw [if_neg c_119]; subst_vars; rfl) | (rw [if_pos c_119, if_neg (fun h => c_149 (by subst_vars; rw [ww_up_nj (by decide), hle]))]; subst_vars; rfl) | (rw [if_pos c_119, if_pos ((nI_eq (by omega) (by omega)).mp (by rw [← hen, c_149]; subst_vars; rw [ww_up_nj (by decide), hle]))]; subst_vars; rfl)))
      · refine lv_aload_n hx hb dX1_writeNextBlock_152 rfl (lv_at hl 0 rfl) ?_
        refine lv_aload_n hx hb dX1_writeNextBlock_153 rfl (lv_at hl 1 rfl) ?_
        refine rr_callV0 (As := [.ref (B (kB i b))]) C hN (kC i) (kC_lt hNn hi) hC_ce rfl rfl (ct_X1_completeBank l hi hb2 hlen (by subst_vars; rw [ww_up_nj (by decide)]; first | exact hle | (rw [cu_wl_q]; exact hle)) hNn) gX1_writeNextBlock_X1_completeBank rfl rfl rfl 1 (by decide +kernel) ⟨Nat.le_of_ble_eq_true rfl, Nat.le_of_ble_eq_true rfl⟩ rfl hl.1 rfl (Nat.le_of_ble_eq_true rfl) ⟨Nat.zero_le _, Nat.zero_le _⟩ dX1_writeNextBlock_154 (fun H locs hN => ?_)
        obtain ⟨uz3, euz3⟩ : ∃ y : ww_U, y = cu_comp uz2 i b len := ⟨_, rfl⟩
        rw [← euz3] at hN
        exact rr_vret C hN dX1_writeNextBlock_157 hr (hu.trans (by first | (rw [if_neg c_119]; subst_vars; rfl) | (rw [if_pos c_119, if_neg (fun h => c_149 (by subst_vars; rw [ww_up_nj (by decide), hle]))]; subst_vars; rfl) | (rw [if_pos c_119, if_pos ((nI_eq (by omega) (by omega)).mp (by rw [← hen, c_149]; subst_vars; rw [ww_up_nj (by decide), hle]))]; subst_vars; rfl)))
    · refine lv_aload_n hx hb dX1_writeNextBlock_122 rfl (lv_at hl 0 rfl) ?_
      refine lv_iconst (v := 0) hx hb dX1_writeNextBlock_123 (by decide) ?_
      refine rr_put C hN (kC i) (kC_lt hNn hi) hC_ce rfl kw_X1_writeNextBlock_X1 8 (by decide) (List.mem_of_getElem? (i := 10) rfl) rfl (x := 0) (by decide) (by decide) (Nat.le_of_ble_eq_true rfl) (hC_ce.trans rfl) dX1_writeNextBlock_124 (fun uz4 euz4 H locs hN => ?_)
      exact rr_vret C hN dX1_writeNextBlock_127 hr (hu.trans (by first | (rw [if_neg c_119]; subst_vars; rfl) | (rw [if_pos c_119, if_neg (fun h => c_149 (by subst_vars; rw [ww_up_nj (by decide), hle]))]; subst_vars; rfl) | (rw [if_pos c_119, if_pos ((nI_eq (by omega) (by omega)).mp (by rw [← hen, c_149]; subst_vars; rw [ww_up_nj (by decide), hle]))]; subst_vars; rfl)))
  | succ d ih =>
    intro k x u hkd hxk hle hw5 hr hu H locs ls hN hl
    refine lv_iload hx hb dX1_writeNextBlock_84 (lv_at hl 6 rfl) ?_
    refine lv_iload_n hx hb dX1_writeNextBlock_86 rfl (lv_at hl 3 rfl) ?_
    refine lv_icmp_ge (tgt := 117) hx hb dX1_writeNextBlock_87 (by decide) (fun c_87 => absurd c_87 (by rw [hen, hxk]; exact nI_ge (by omega) (by omega))) (fun c_87 => ?_)
    refine lv_aload_n hx hb dX1_writeNextBlock_90 rfl (lv_at hl 1 rfl) ?_
    refine rr_get C hN (kB i b) (kB_lt hNn hi hb2) (hB_ce hb2) rfl kw_X1_writeNextBlock_X0 0 (by decide) (List.mem_of_getElem? (i := 12) rfl) (v := .ref (B (kO i b))) rfl dX1_writeNextBlock_91 ?_
    refine lv_iload hx hb dX1_writeNextBlock_94 (lv_at hl 6 rfl) ?_
    refine lv_aload_n hx hb dX1_writeNextBlock_96 rfl (lv_at hl 0 rfl) ?_
    refine rr_get C hN (kC i) (kC_lt hNn hi) hC_ce rfl kw_X1_writeNextBlock_X1 2 (by decide) (List.mem_of_getElem? (i := 3) rfl) (v := .ref (B (kP i))) rfl dX1_writeNextBlock_97 ?_
    refine rr_get C hN (kP i) (kP_lt hNn hi) hP_ce rfl kw_X1_writeNextBlock_X3 0 (by decide) (List.mem_of_getElem? (i := 13) rfl) (v := .ref (B (kQ i))) rfl dX1_writeNextBlock_100 ?_
    refine lv_iload hx hb dX1_writeNextBlock_103 (lv_at hl 6 rfl) ?_
    refine rr_bald C hN (kQ i) (kQ_lt hNn hi) hQ_ce (by decide) k (by omega) hxk dX1_writeNextBlock_105 ?_
    refine lv_iload hx hb dX1_writeNextBlock_106 (lv_at hl 5 rfl) ?_
    refine lv_ixor hx hb dX1_writeNextBlock_108 ?_
    refine lv_topi (fun vs1 evs1 => ?_)
    refine lv_i2b hx hb dX1_writeNextBlock_109 rfl ?_
    refine lv_topi (fun vs2 evs2 => ?_)
    refine rr_bast C hN (kO i b) (kO_lt hNn hi hb2) (fun _ => hO_ce hb2) (by decide) k (by omega) hxk dX1_writeNextBlock_110 (fun us3 eus3 H locs hN => ?_)
    obtain ⟨vs4, evs4⟩ : ∃ y : Int32, y = x + 1 := ⟨_, rfl⟩
    refine lv_iinc (v := vs4) (lv' := [(6, .int vs4), (0, .ref (B (kC i))), (1, .ref (B (kB i b))), (2, .int fr), (3, .int en), (4, .int fq), (5, .int fl)]) hx hb dX1_writeNextBlock_111 hl (k := 6) rfl (by rw [evs4]; rfl) (by decide) rfl (fun ls hl => ?_)
    refine lv_goto (tgt := 84) hx hb dX1_writeNextBlock_114 (by decide) ?_
    exact ih (k + 1) vs4 us3 (by omega) (by rw [evs4, hxk]; exact nI_1 k) (by subst_vars; rw [ww_up_ne (by simp only [kP, kO]; omega)]; exact hle) (by rw [eus3, ww_up_ne (by simp only [kP, kO]; omega)]; exact hw5) (hr.trans (by subst_vars; first | rfl | (simp only [cu_wl]; done) | (simp only [cu_wl]; (repeat' split) <;> first | rfl | contradiction | simp_all))) (hu.trans (by subst_vars; first | rfl | (simp only [cu_wl]; done) | (simp only [cu_wl]; (repeat' split) <;> first | rfl | contradiction | simp_all))) H locs ls hN (lv_sub hl [1, 2, 3, 4, 5, 6, 0] rfl)
set_option maxHeartbeats 4000000 in
set_option maxRecDepth 100000 in
theorem ct_X1_writeNextBlock (l : Launch) {D : va_G} {ca : Nat → ClassId} {B : Nat → Nat} {N n : Nat} {X : va_W} {u : ww_U} {i : Nat} (hi : i < n) {b w len : Nat} (hb2 : b < 2) (hb3 : u (kC i) 3 = nI (1 - b)) (hlen : len ≤ 256) (hle : u (kP i) 1 = nI len) (hw : 16 * w < len) (hwe : u (kP i) 5 = nI w) (hNn : 36 + 8 * n ≤ N)  : ww_M l yX1_writeNextBlock wsX1_writeNextBlock ({ frames := 1, cells := 0, slots := 0, locals := 40 } : Room) D ca B N n X u [.ref (B (kC i))] none (cu_write u i b w len) := by
  refine ww_met (cc := cX1_writeNextBlock) (maxL := 7) (ret := none) (by decide) rfl (Nat.le_of_ble_eq_true rfl) ?_
  intro p e s m args below meth c C hN ls hl
  have hl : lv_has ls 7 [(0, .ref (B (kC i)))] := hl
  have hx := C.1.1
  have hb := C.1.2.1
  have hNB : 36 ≤ N := by omega
  have hNN : 29 ≤ N := by omega
  refine lv_aload_n hx hb dX1_writeNextBlock_0 rfl (lv_at hl 0 rfl) ?_
  refine rr_get C hN (kC i) (kC_lt hNn hi) hC_ce rfl kw_X1_writeNextBlock_X1 1 (by decide) (List.mem_of_getElem? (i := 1) rfl) (v := .ref (B (kR i))) rfl dX1_writeNextBlock_1 ?_
  refine lv_iconst (v := 1) hx hb dX1_writeNextBlock_4 (by decide) ?_
  refine lv_aload_n hx hb dX1_writeNextBlock_5 rfl (lv_at hl 0 rfl) ?_
  refine rr_get C hN (kC i) (kC_lt hNn hi) hC_ce rfl kw_X1_writeNextBlock_X1 3 (by decide) (List.mem_of_getElem? (i := 2) rfl) (v := .int (u (kC i) 3)) rfl dX1_writeNextBlock_6 ?_
  refine lv_isub hx hb dX1_writeNextBlock_9 ?_
  refine lv_topi (fun v1 ev1 => ?_)
  refine rr_ald C hN (kR i) (kR_lt hNn hi) 4 hR_ce rfl (by decide) b hb2 (by rw [ev1, hb3]; rcases (show b = 0 ∨ b = 1 by omega) with rfl | rfl <;> rfl) (v := .ref (B (kB i b))) rfl dX1_writeNextBlock_10 ?_
  refine lv_astore_n (lv' := [(1, .ref (B (kB i b))), (0, .ref (B (kC i)))]) hx hb dX1_writeNextBlock_11 rfl hl (by decide) rfl (fun ls hl => ?_)
  refine lv_aload_n hx hb dX1_writeNextBlock_12 rfl (lv_at hl 1 rfl) ?_
  refine rr_get C hN (kC i) (kC_lt hNn hi) hC_ce rfl kw_X1_writeNextBlock_X1 2 (by decide) (List.mem_of_getElem? (i := 3) rfl) (v := .ref (B (kP i))) rfl dX1_writeNextBlock_13 ?_
  refine rr_get C hN (kP i) (kP_lt hNn hi) hP_ce rfl kw_X1_writeNextBlock_X3 5 (by decide) (List.mem_of_getElem? (i := 4) rfl) (v := .int (u (kP i) 5)) rfl dX1_writeNextBlock_16 ?_
  refine lv_bipush (v := 16) hx hb dX1_writeNextBlock_19 (by decide) ?_
  refine lv_imul hx hb dX1_writeNextBlock_21 ?_
  refine lv_topi (fun v2 ev2 => ?_)
  refine lv_istore_n (lv' := [(2, .int v2), (1, .ref (B (kB i b))), (0, .ref (B (kC i)))]) hx hb dX1_writeNextBlock_22 rfl hl (by decide) rfl (fun ls hl => ?_)
  refine lv_iload_n hx hb dX1_writeNextBlock_23 rfl (lv_at hl 0 rfl) ?_
  refine lv_bipush (v := 16) hx hb dX1_writeNextBlock_24 (by decide) ?_
  refine lv_iadd hx hb dX1_writeNextBlock_26 ?_
  refine lv_topi (fun v3 ev3 => ?_)
  refine lv_aload_n hx hb dX1_writeNextBlock_27 rfl (lv_at hl 2 rfl) ?_
  refine rr_get C hN (kC i) (kC_lt hNn hi) hC_ce rfl kw_X1_writeNextBlock_X1 2 (by decide) (List.mem_of_getElem? (i := 3) rfl) (v := .ref (B (kP i))) rfl dX1_writeNextBlock_28 ?_
  refine rr_get C hN (kP i) (kP_lt hNn hi) hP_ce rfl kw_X1_writeNextBlock_X3 1 (by decide) (List.mem_of_getElem? (i := 5) rfl) (v := .int (u (kP i) 1)) rfl dX1_writeNextBlock_31 ?_
  refine va_mmin (x := v3) (y := (u (kP i) 1)) hx hb (C.1.2.2.1.trans hl.1.symm) C.1.2.2.2.1 (C.1.2.2.2.2 _ (List.mem_of_getElem? (i := 6) rfl)) (C.1.2.2.2.2 _ (List.mem_of_getElem? (i := 7) rfl)) (C.1.2.2.2.2 _ (List.mem_of_getElem? (i := 8) rfl)) (C.1.2.2.2.2 _ (List.mem_of_getElem? (i := 9) rfl)) (Nat.le_of_ble_eq_true rfl) (Nat.le_of_ble_eq_true rfl) (Nat.zero_le _) (Nat.zero_le _) dX1_writeNextBlock_34 ?_
  refine lv_topi (fun v4 ev4 => ?_)
  refine lv_istore_n (lv' := [(3, .int v4), (2, .int v2), (1, .ref (B (kB i b))), (0, .ref (B (kC i)))]) hx hb dX1_writeNextBlock_37 rfl hl (by decide) rfl (fun ls hl => ?_)
  refine lv_aload_n hx hb dX1_writeNextBlock_38 rfl (lv_at hl 3 rfl) ?_
  refine rr_get C hN (kC i) (kC_lt hNn hi) hC_ce rfl kw_X1_writeNextBlock_X1 8 (by decide) (List.mem_of_getElem? (i := 10) rfl) (v := .int (u (kC i) 8)) rfl dX1_writeNextBlock_39 ?_
  refine lv_if_eq (tgt := 63) hx hb dX1_writeNextBlock_42 (by decide) (fun c_42 => ?_) (fun c_42 => ?_)
  · refine lv_iconst (v := 0) hx hb dX1_writeNextBlock_63 (by decide) ?_
    refine lv_istore (lv' := [(4, .int 0), (3, .int v4), (2, .int v2), (1, .ref (B (kB i b))), (0, .ref (B (kC i)))]) hx hb dX1_writeNextBlock_64 hl (by decide) rfl (fun ls hl => ?_)
    refine lv_iload hx hb dX1_writeNextBlock_66 (lv_at hl 0 rfl) ?_
    refine lv_if_eq (tgt := 78) hx hb dX1_writeNextBlock_68 (by decide) (fun c_68 => ?_) (fun c_68 => absurd c_68 (by decide))
    refine lv_iconst (v := 0) hx hb dX1_writeNextBlock_78 (by decide) ?_
    refine lv_istore (lv' := [(5, .int 0), (4, .int 0), (3, .int v4), (2, .int v2), (1, .ref (B (kB i b))), (0, .ref (B (kC i)))]) hx hb dX1_writeNextBlock_79 hl (by decide) rfl (fun ls hl => ?_)
    refine lv_iload_n hx hb dX1_writeNextBlock_81 rfl (lv_at hl 3 rfl) ?_
    refine lv_istore (lv' := [(6, .int v2), (5, .int 0), (4, .int 0), (3, .int v4), (2, .int v2), (1, .ref (B (kB i b))), (0, .ref (B (kC i)))]) hx hb dX1_writeNextBlock_82 hl (by decide) rfl (fun ls hl => ?_)
    have hfr : v2 = nI (16 * w) := by rw [ev2, hwe]; exact (pk_mul w 16).trans (congrArg nI (Nat.mul_comm w 16))
    have hen : v4 = nI (min (16 * w + 16) len) := by rw [ev4]; exact cu_min hlen hw (by rw [ev3, hfr]; exact nI_add (16 * w) 16) hle
    exact lp_X1_writeNextBlock C hNn hi hb2 hlen (Nat.min_le_right _ _) v2 v4 0 0 (u (kP i) 5) hen (min (16 * w + 16) len - 16 * w) (16 * w) v2 u (by omega) hfr hle rfl rfl (by unfold cu_write; rw [if_neg (fun h => h.1 c_42), if_pos (show (0 : Int32) = 0 from rfl)]; exact cu_ifx _ _) _ _ _ hN (lv_sub hl [6, 5, 4, 3, 2, 1, 0] rfl)
  · refine lv_aload_n hx hb dX1_writeNextBlock_45 rfl (lv_at hl 3 rfl) ?_
    refine rr_get C hN (kC i) (kC_lt hNn hi) hC_ce rfl kw_X1_writeNextBlock_X1 7 (by decide) (List.mem_of_getElem? (i := 11) rfl) (v := .int (u (kC i) 7)) rfl dX1_writeNextBlock_46 ?_
    refine lv_aload_n hx hb dX1_writeNextBlock_49 rfl (lv_at hl 3 rfl) ?_
    refine rr_get C hN (kC i) (kC_lt hNn hi) hC_ce rfl kw_X1_writeNextBlock_X1 2 (by decide) (List.mem_of_getElem? (i := 3) rfl) (v := .ref (B (kP i))) rfl dX1_writeNextBlock_50 ?_
    refine rr_get C hN (kP i) (kP_lt hNn hi) hP_ce rfl kw_X1_writeNextBlock_X3 5 (by decide) (List.mem_of_getElem? (i := 4) rfl) (v := .int (u (kP i) 5)) rfl dX1_writeNextBlock_53 ?_
    refine lv_icmp_ne (tgt := 63) hx hb dX1_writeNextBlock_56 (by decide) (fun c_56 => ?_) (fun c_56 => ?_)
    · refine lv_iconst (v := 0) hx hb dX1_writeNextBlock_63 (by decide) ?_
      refine lv_istore (lv' := [(4, .int 0), (3, .int v4), (2, .int v2), (1, .ref (B (kB i b))), (0, .ref (B (kC i)))]) hx hb dX1_writeNextBlock_64 hl (by decide) rfl (fun ls hl => ?_)
      refine lv_iload hx hb dX1_writeNextBlock_66 (lv_at hl 0 rfl) ?_
      refine lv_if_eq (tgt := 78) hx hb dX1_writeNextBlock_68 (by decide) (fun c_68 => ?_) (fun c_68 => absurd c_68 (by decide))
      refine lv_iconst (v := 0) hx hb dX1_writeNextBlock_78 (by decide) ?_
      refine lv_istore (lv' := [(5, .int 0), (4, .int 0), (3, .int v4), (2, .int v2), (1, .ref (B (kB i b))), (0, .ref (B (kC i)))]) hx hb dX1_writeNextBlock_79 hl (by decide) rfl (fun ls hl => ?_)
      refine lv_iload_n hx hb dX1_writeNextBlock_81 rfl (lv_at hl 3 rfl) ?_
      refine lv_istore (lv' := [(6, .int v2), (5, .int 0), (4, .int 0), (3, .int v4), (2, .int v2), (1, .ref (B (kB i b))), (0, .ref (B (kC i)))]) hx hb dX1_writeNextBlock_82 hl (by decide) rfl (fun ls hl => ?_)
      have hfr : v2 = nI (16 * w) := by rw [ev2, hwe]; exact (pk_mul w 16).trans (congrArg nI (Nat.mul_comm w 16))
      have hen : v4 = nI (min (16 * w + 16) len) := by rw [ev4]; exact cu_min hlen hw (by rw [ev3, hfr]; exact nI_add (16 * w) 16) hle
      exact lp_X1_writeNextBlock C hNn hi hb2 hlen (Nat.min_le_right _ _) v2 v4 0 0 (u (kP i) 5) hen (min (16 * w + 16) len - 16 * w) (16 * w) v2 u (by omega) hfr hle rfl rfl (by unfold cu_write; rw [if_neg (fun h => c_56 h.2), if_pos (show (0 : Int32) = 0 from rfl)]; exact cu_ifx _ _) _ _ _ hN (lv_sub hl [6, 5, 4, 3, 2, 1, 0] rfl)
    · refine lv_iconst (v := 1) hx hb dX1_writeNextBlock_59 (by decide) ?_
      refine lv_goto (tgt := 64) hx hb dX1_writeNextBlock_60 (by decide) ?_
      refine lv_istore (lv' := [(4, .int 1), (3, .int v4), (2, .int v2), (1, .ref (B (kB i b))), (0, .ref (B (kC i)))]) hx hb dX1_writeNextBlock_64 hl (by decide) rfl (fun ls hl => ?_)
      refine lv_iload hx hb dX1_writeNextBlock_66 (lv_at hl 0 rfl) ?_
      refine lv_if_eq (tgt := 78) hx hb dX1_writeNextBlock_68 (by decide) (fun c_68 => absurd c_68 (by decide)) (fun c_68 => ?_)
      refine lv_aload_n hx hb dX1_writeNextBlock_71 rfl (lv_at hl 4 rfl) ?_
      refine rr_get C hN (kC i) (kC_lt hNn hi) hC_ce rfl kw_X1_writeNextBlock_X1 8 (by decide) (List.mem_of_getElem? (i := 10) rfl) (v := .int (u (kC i) 8)) rfl dX1_writeNextBlock_72 ?_
      refine lv_goto (tgt := 79) hx hb dX1_writeNextBlock_75 (by decide) ?_
      refine lv_istore (lv' := [(5, .int (u (kC i) 8)), (4, .int 1), (3, .int v4), (2, .int v2), (1, .ref (B (kB i b))), (0, .ref (B (kC i)))]) hx hb dX1_writeNextBlock_79 hl (by decide) rfl (fun ls hl => ?_)
      refine lv_iload_n hx hb dX1_writeNextBlock_81 rfl (lv_at hl 3 rfl) ?_
      refine lv_istore (lv' := [(6, .int v2), (5, .int (u (kC i) 8)), (4, .int 1), (3, .int v4), (2, .int v2), (1, .ref (B (kB i b))), (0, .ref (B (kC i)))]) hx hb dX1_writeNextBlock_82 hl (by decide) rfl (fun ls hl => ?_)
      have hfr : v2 = nI (16 * w) := by rw [ev2, hwe]; exact (pk_mul w 16).trans (congrArg nI (Nat.mul_comm w 16))
      have hen : v4 = nI (min (16 * w + 16) len) := by rw [ev4]; exact cu_min hlen hw (by rw [ev3, hfr]; exact nI_add (16 * w) 16) hle
      exact lp_X1_writeNextBlock C hNn hi hb2 hlen (Nat.min_le_right _ _) v2 v4 1 (u (kC i) 8) (u (kP i) 5) hen (min (16 * w + 16) len - 16 * w) (16 * w) v2 u (by omega) hfr hle rfl rfl (by unfold cu_write; rw [if_pos ⟨c_42, c_56⟩, if_neg (show ¬ (1 : Int32) = 0 by decide)]) _ _ _ hN (lv_sub hl [6, 5, 4, 3, 2, 1, 0] rfl)
end
section
theorem cu_mls_r {n d k : Nat} {a : Int32} {u : ww_U} (h : cu_run n u) : cu_run n (cu_mls d k a u) := by
  induction d generalizing k u with
  | zero => exact h
  | succ d ih =>
    unfold cu_mls
    split
    · exact ih (cu_run_up h (by decide))
    · refine ih (fun i hi => ?_)
      obtain ⟨b, hb, e⟩ := cu_run_up (k := kC k) (j := 9) (x := u (kP k) 2) h (by decide) i hi
      exact ⟨b, hb, by rw [ww_up_ne (by simp only [kC, kP]; omega)]; exact e⟩
theorem cu_run_switch {n i : Nat} {u : ww_U} (h : cu_run n u) (hi : i < n) : cu_run n (cu_switch n u i) := by
  have h1 : cu_run n (ww_up (cu_other u i) (kP i) 4 3) := cu_run_up (cu_run_other h hi) (by decide)
  unfold cu_switch
  split
  · exact h1
  · exact cu_mls_r h1
def cu_boot (n : Nat) (u : ww_U) (j : Nat) : ww_U := if u (kC j) 5 = 0 then u else if ww_up u (kC j) 5 0 (kP j) 4 = 2 then (if ww_up u (kC j) 5 0 (kP j) 7 = 0 then ww_up u (kC j) 5 0 else cu_switch n (ww_up u (kC j) 5 0) j) else ww_up u (kC j) 5 0
def cu_boot_r (n : Nat) (u : ww_U) (j : Nat) : Int32 := cu_boot n u j (kB j (cu_b (cu_boot n u j) j)) 1
theorem cu_run_boot {n j : Nat} {u : ww_U} (h : cu_run n u) (hj : j < n) : cu_run n (cu_boot n u j) := by
  unfold cu_boot
  (repeat' split) <;> first | exact h | exact cu_run_up h (by decide) | exact cu_run_switch (cu_run_up h (by decide)) hj
def cu_wr (u : ww_U) (j : Nat) : Prop := u (kP j) 4 = 1 → ∃ w len, u (kP j) 5 = nI w ∧ u (kP j) 1 = nI len ∧ 16 * w < len ∧ len ≤ 256
def cu_wrt (u : ww_U) (j : Nat) : ww_U := cu_write u j (1 - cu_b u j) (u (kP j) 5).toNatClampNeg (u (kP j) 1).toNatClampNeg
def cu_step (n : Nat) (u : ww_U) (j : Nat) : ww_U × Int32 := if cu_away u j = 0 then (if u (kP j) 4 = 2 then cu_ready n u j else if u (kP j) 4 = 1 then (if cu_hold u = 0 then (u, u (kP j) 4) else (cu_wrt u j, cu_wrt u j (kP j) 4)) else (u, u (kP j) 4)) else (u, -3)
theorem cu_fo_lt {n d k i : Nat} {a : Int32} {u : ww_U} (hd : k + d = n) (h : cu_fo d k a u = some i) : i < n := by
  induction d generalizing k with
  | zero => cases h
  | succ d ih =>
    unfold cu_fo at h
    split at h
    · exact ih (by omega) h
    · split at h
      · cases h; omega
      · exact ih (by omega) h
def cu_needs (n : Nat) (u : ww_U) (p q : Int32) : ww_U × Int32 := if cu_isp u p = 0 then (u, -1) else if cu_isp u q = 0 then (u, -1) else if p = q then (u, -2) else match cu_fo n 0 p u, cu_fo n 0 q u with
  | some i, some j => if u (kP i) 7 = 0 then (if u (kP j) 7 = 0 then cu_join n 0 (u (kP i) 6) (u (kP j) 6) u 0 else (u, -3)) else (u, -3)
  | _, _ => (u, -3)
set_option maxRecDepth 20000 in
theorem kw_X4_boot_X0 : ww_K wsX4_boot RX0 TX0 3 tyX0 := ⟨by decide +kernel, tyX0_ok, nmX0⟩
set_option maxRecDepth 20000 in
theorem kw_X4_boot_X1 : ww_K wsX4_boot RX1 TX1 10 tyX1 := ⟨by decide +kernel, tyX1_ok, nmX1⟩
set_option maxRecDepth 20000 in
theorem kw_X4_boot_X3 : ww_K wsX4_boot RX3 TX3 8 tyX3 := ⟨by decide +kernel, tyX3_ok, nmX3⟩
set_option maxHeartbeats 4000000 in
set_option maxRecDepth 100000 in
theorem ct_X4_boot (l : Launch) {D : va_G} {ca : Nat → ClassId} {B : Nat → Nat} {N n : Nat} {X : va_W} {u : ww_U} {x : Int32} (j : Nat) (hj : j < 8) (hj2 : j < n) (hxj : x = nI (j + 1)) (hx1 : ¬ x < 1) (hx2 : x ≤ u 29 1) (hn8 : n ≤ 8) (hc : u 29 1 = nI n) (hrun : cu_run n u) (hNn : 36 + 8 * n ≤ N)  : ww_M l yX4_boot wsX4_boot ({ frames := 3, cells := 0, slots := 0, locals := 65 } : Room) D ca B N n X u [.ref (B 29), .int x] (some (.int (cu_boot_r n u j))) (cu_boot n u j) := by
  refine ww_met (cc := cX4_boot) (maxL := 3) (ret := (some .int)) (by decide) rfl (Nat.le_of_ble_eq_true rfl) ?_
  intro p e s m args below meth c C hN ls hl
  have hl : lv_has ls 3 [(0, .ref (B 29)), (1, .int x)] := hl
  have hx := C.1.1
  have hb := C.1.2.1
  have hNB : 36 ≤ N := by omega
  have hNN : 29 ≤ N := by omega
  refine lv_aload_n hx hb dX4_boot_0 rfl (lv_at hl 0 rfl) ?_
  refine lv_iload_n hx hb dX4_boot_1 rfl (lv_at hl 1 rfl) ?_
  refine rr_callV (As := [.int x]) C hN 29 (Nat.lt_of_lt_of_le (by decide) hNB) rfl rfl rfl (ct_X4_find l j hj hj2 hxj hNn hx1 hx2) gX4_boot_X4_find rfl rfl rfl 1 (by decide +kernel) ⟨Nat.le_of_ble_eq_true rfl, Nat.le_of_ble_eq_true rfl⟩ rfl hl.1 rfl (Nat.le_of_ble_eq_true rfl) ⟨Nat.zero_le _, Nat.zero_le _⟩ dX4_boot_2 (fun H locs hN => ?_)
  refine lv_astore_n (lv' := [(2, .ref (B (kC j))), (0, .ref (B 29)), (1, .int x)]) hx hb dX4_boot_5 rfl hl (by decide) rfl (fun ls hl => ?_)
  refine lv_aload_n hx hb dX4_boot_6 rfl (lv_at hl 0 rfl) ?_
  refine lv_ifnonnull (tgt := 12) hx hb dX4_boot_7 (by decide) ?_
  refine lv_aload_n hx hb dX4_boot_12 rfl (lv_at hl 0 rfl) ?_
  refine rr_get C hN (kC j) (kC_lt hNn hj2) hC_ce rfl kw_X4_boot_X1 5 (by decide) (List.mem_of_getElem? (i := 1) rfl) (v := .int (u (kC j) 5)) rfl dX4_boot_13 ?_
  refine lv_if_eq (tgt := 50) hx hb dX4_boot_16 (by decide) (fun c_16 => ?_) (fun c_16 => ?_)
  · refine lv_aload_n hx hb dX4_boot_50 rfl (lv_at hl 0 rfl) ?_
    obtain ⟨b, hb2, hbe⟩ : ∃ b, b < 2 ∧ u (kC j) 3 = nI b := (by subst_vars; first | exact hrun j hj2 | exact cu_run_up hrun (by decide) j hj2 | exact cu_run_switch (cu_run_up hrun (by decide)) hj2 j hj2)
    have hcb : cu_b u j = b := cu_b_of hb2 hbe
    refine rr_callV (As := []) C hN (kC j) (kC_lt hNn hj2) hC_ce rfl rfl (ct_X1_runningBank l hj2 hb2 hbe hNn) gX4_boot_X1_runningBank rfl rfl rfl 0 (by decide +kernel) ⟨Nat.le_of_ble_eq_true rfl, Nat.le_of_ble_eq_true rfl⟩ rfl hl.1 rfl (Nat.le_of_ble_eq_true rfl) ⟨Nat.zero_le _, Nat.zero_le _⟩ dX4_boot_51 (fun H locs hN => ?_)
    refine rr_get C hN (kB j b) (kB_lt hNn hj2 hb2) (hB_ce hb2) rfl kw_X4_boot_X0 1 (by decide) (List.mem_of_getElem? (i := 5) rfl) (v := .int (u (kB j b) 1)) rfl dX4_boot_54 ?_
    have hE : cu_boot n u j = u := by unfold cu_boot; rw [if_pos c_16]
    exact rr_iret C hN dX4_boot_57 (by unfold cu_boot_r; rw [hE, hcb]) hE
  · refine lv_aload_n hx hb dX4_boot_19 rfl (lv_at hl 0 rfl) ?_
    refine lv_iconst (v := 0) hx hb dX4_boot_20 (by decide) ?_
    refine rr_put C hN (kC j) (kC_lt hNn hj2) hC_ce rfl kw_X4_boot_X1 5 (by decide) (List.mem_of_getElem? (i := 1) rfl) rfl (x := 0) (by decide) (by decide) (Nat.le_of_ble_eq_true rfl) (hC_ce.trans rfl) dX4_boot_21 (fun u1 eu1 H locs hN => ?_)
    refine lv_aload_n hx hb dX4_boot_24 rfl (lv_at hl 0 rfl) ?_
    refine rr_get C hN (kC j) (kC_lt hNn hj2) hC_ce rfl kw_X4_boot_X1 2 (by decide) (List.mem_of_getElem? (i := 2) rfl) (v := .ref (B (kP j))) rfl dX4_boot_25 ?_
    refine rr_get C hN (kP j) (kP_lt hNn hj2) hP_ce rfl kw_X4_boot_X3 4 (by decide) (List.mem_of_getElem? (i := 3) rfl) (v := .int (u1 (kP j) 4)) rfl dX4_boot_28 ?_
    refine lv_iconst (v := 2) hx hb dX4_boot_31 (by decide) ?_
    refine lv_icmp_ne (tgt := 50) hx hb dX4_boot_32 (by decide) (fun c_32 => ?_) (fun c_32 => ?_)
    · refine lv_aload_n hx hb dX4_boot_50 rfl (lv_at hl 0 rfl) ?_
      obtain ⟨b, hb2, hbe⟩ : ∃ b, b < 2 ∧ u1 (kC j) 3 = nI b := (by subst_vars; first | exact hrun j hj2 | exact cu_run_up hrun (by decide) j hj2 | exact cu_run_switch (cu_run_up hrun (by decide)) hj2 j hj2)
      have hcb : cu_b u1 j = b := cu_b_of hb2 hbe
      refine rr_callV (As := []) C hN (kC j) (kC_lt hNn hj2) hC_ce rfl rfl (ct_X1_runningBank l hj2 hb2 hbe hNn) gX4_boot_X1_runningBank rfl rfl rfl 0 (by decide +kernel) ⟨Nat.le_of_ble_eq_true rfl, Nat.le_of_ble_eq_true rfl⟩ rfl hl.1 rfl (Nat.le_of_ble_eq_true rfl) ⟨Nat.zero_le _, Nat.zero_le _⟩ dX4_boot_51 (fun H locs hN => ?_)
      refine rr_get C hN (kB j b) (kB_lt hNn hj2 hb2) (hB_ce hb2) rfl kw_X4_boot_X0 1 (by decide) (List.mem_of_getElem? (i := 5) rfl) (v := .int (u1 (kB j b) 1)) rfl dX4_boot_54 ?_
      have hE : cu_boot n u j = u1 := by unfold cu_boot; rw [if_neg c_16]; subst_vars; rw [if_neg c_32]
      exact rr_iret C hN dX4_boot_57 (by unfold cu_boot_r; rw [hE, hcb]) hE
    · refine lv_aload_n hx hb dX4_boot_35 rfl (lv_at hl 0 rfl) ?_
      refine rr_get C hN (kC j) (kC_lt hNn hj2) hC_ce rfl kw_X4_boot_X1 2 (by decide) (List.mem_of_getElem? (i := 2) rfl) (v := .ref (B (kP j))) rfl dX4_boot_36 ?_
      refine rr_get C hN (kP j) (kP_lt hNn hj2) hP_ce rfl kw_X4_boot_X3 7 (by decide) (List.mem_of_getElem? (i := 4) rfl) (v := .int (u1 (kP j) 7)) rfl dX4_boot_39 ?_
      refine lv_if_eq (tgt := 50) hx hb dX4_boot_42 (by decide) (fun c_42 => ?_) (fun c_42 => ?_)
      · refine lv_aload_n hx hb dX4_boot_50 rfl (lv_at hl 0 rfl) ?_
        obtain ⟨b, hb2, hbe⟩ : ∃ b, b < 2 ∧ u1 (kC j) 3 = nI b := (by subst_vars; first | exact hrun j hj2 | exact cu_run_up hrun (by decide) j hj2 | exact cu_run_switch (cu_run_up hrun (by decide)) hj2 j hj2)
        have hcb : cu_b u1 j = b := cu_b_of hb2 hbe
        refine rr_callV (As := []) C hN (kC j) (kC_lt hNn hj2) hC_ce rfl rfl (ct_X1_runningBank l hj2 hb2 hbe hNn) gX4_boot_X1_runningBank rfl rfl rfl 0 (by decide +kernel) ⟨Nat.le_of_ble_eq_true rfl, Nat.le_of_ble_eq_true rfl⟩ rfl hl.1 rfl (Nat.le_of_ble_eq_true rfl) ⟨Nat.zero_le _, Nat.zero_le _⟩ dX4_boot_51 (fun H locs hN => ?_)
        refine rr_get C hN (kB j b) (kB_lt hNn hj2 hb2) (hB_ce hb2) rfl kw_X4_boot_X0 1 (by decide) (List.mem_of_getElem? (i := 5) rfl) (v := .int (u1 (kB j b) 1)) rfl dX4_boot_54 ?_
        have hE : cu_boot n u j = u1 := by unfold cu_boot; rw [if_neg c_16]; subst_vars; rw [if_pos c_32, if_pos c_42]
        exact rr_iret C hN dX4_boot_57 (by unfold cu_boot_r; rw [hE, hcb]) hE
      · refine lv_aload_n hx hb dX4_boot_45 rfl (lv_at hl 1 rfl) ?_
        refine lv_aload_n hx hb dX4_boot_46 rfl (lv_at hl 0 rfl) ?_
        refine rr_callV0 (As := [.ref (B (kC j))]) C hN 29 (Nat.lt_of_lt_of_le (by decide) hNB) rfl rfl rfl (ct_X4_switchBanks l hj2 hNn hn8 (by subst_vars; rw [ww_up_ne (by simp only [kC]; omega)]; exact hc) (by subst_vars; exact cu_run_up hrun (by decide))) gX4_boot_X4_switchBanks rfl rfl rfl 1 (by decide +kernel) ⟨Nat.le_of_ble_eq_true rfl, Nat.le_of_ble_eq_true rfl⟩ rfl hl.1 rfl (Nat.le_of_ble_eq_true rfl) ⟨Nat.zero_le _, Nat.zero_le _⟩ dX4_boot_47 (fun H locs hN => ?_)
        obtain ⟨u2, eu2⟩ : ∃ y : ww_U, y = cu_switch n u1 j := ⟨_, rfl⟩
        rw [← eu2] at hN
        refine lv_aload_n hx hb dX4_boot_50 rfl (lv_at hl 0 rfl) ?_
        obtain ⟨b, hb2, hbe⟩ : ∃ b, b < 2 ∧ u2 (kC j) 3 = nI b := (by subst_vars; first | exact hrun j hj2 | exact cu_run_up hrun (by decide) j hj2 | exact cu_run_switch (cu_run_up hrun (by decide)) hj2 j hj2)
        have hcb : cu_b u2 j = b := cu_b_of hb2 hbe
        refine rr_callV (As := []) C hN (kC j) (kC_lt hNn hj2) hC_ce rfl rfl (ct_X1_runningBank l hj2 hb2 hbe hNn) gX4_boot_X1_runningBank rfl rfl rfl 0 (by decide +kernel) ⟨Nat.le_of_ble_eq_true rfl, Nat.le_of_ble_eq_true rfl⟩ rfl hl.1 rfl (Nat.le_of_ble_eq_true rfl) ⟨Nat.zero_le _, Nat.zero_le _⟩ dX4_boot_51 (fun H locs hN => ?_)
        refine rr_get C hN (kB j b) (kB_lt hNn hj2 hb2) (hB_ce hb2) rfl kw_X4_boot_X0 1 (by decide) (List.mem_of_getElem? (i := 5) rfl) (v := .int (u2 (kB j b) 1)) rfl dX4_boot_54 ?_
        have hE : cu_boot n u j = u2 := by unfold cu_boot; rw [if_neg c_16]; subst_vars; rw [if_pos c_32, if_neg c_42]
        exact rr_iret C hN dX4_boot_57 (by unfold cu_boot_r; rw [hE, hcb]) hE
set_option maxHeartbeats 4000000 in
set_option maxRecDepth 100000 in
theorem ct_X4_step0 (l : Launch) {D : va_G} {ca : Nat → ClassId} {B : Nat → Nat} {N n : Nat} {X : va_W} {u : ww_U} {x : Int32} (h : x < 1 ∨ u 29 1 < x) (hNn : 36 + 8 * n ≤ N)  : ww_M l yX4_step wsX4_step ({ frames := 4, cells := 0, slots := 0, locals := 86 } : Room) D ca B N n X u [.ref (B 29), .int x] (some (.int (-1))) u := by
  refine ww_met (cc := cX4_step) (maxL := 3) (ret := (some .int)) (by decide) rfl (Nat.le_of_ble_eq_true rfl) ?_
  intro p e s m args below meth c C hN ls hl
  have hl : lv_has ls 3 [(0, .ref (B 29)), (1, .int x)] := hl
  have hx := C.1.1
  have hb := C.1.2.1
  have hNB : 36 ≤ N := by omega
  have hNN : 29 ≤ N := by omega
  refine lv_aload_n hx hb dX4_step_0 rfl (lv_at hl 0 rfl) ?_
  refine lv_iload_n hx hb dX4_step_1 rfl (lv_at hl 1 rfl) ?_
  refine rr_callV (As := [.int x]) C hN 29 (Nat.lt_of_lt_of_le (by decide) hNB) rfl rfl rfl (ct_X4_find0 l h hNn) gX4_step_X4_find rfl rfl rfl 1 (by decide +kernel) ⟨Nat.le_of_ble_eq_true rfl, Nat.le_of_ble_eq_true rfl⟩ rfl hl.1 rfl (Nat.le_of_ble_eq_true rfl) ⟨Nat.zero_le _, Nat.zero_le _⟩ dX4_step_2 (fun H locs hN => ?_)
  refine lv_astore_nN (lv' := [(2, .null), (0, .ref (B 29)), (1, .int x)]) hx hb dX4_step_5 rfl hl (by decide) rfl (fun ls hl => ?_)
  refine lv_aload_nN hx hb dX4_step_6 rfl (lv_at hl 0 rfl) ?_
  refine lv_ifnonnullN hx hb dX4_step_7 ?_
  refine lv_iconst (v := (-1)) hx hb dX4_step_10 (by decide) ?_
  exact rr_iret C hN dX4_step_11 rfl rfl
set_option maxRecDepth 20000 in
theorem kw_X4_step_X1 : ww_K wsX4_step RX1 TX1 10 tyX1 := ⟨by decide +kernel, tyX1_ok, nmX1⟩
set_option maxRecDepth 20000 in
theorem kw_X4_step_X3 : ww_K wsX4_step RX3 TX3 8 tyX3 := ⟨by decide +kernel, tyX3_ok, nmX3⟩
set_option maxHeartbeats 4000000 in
set_option maxRecDepth 100000 in
theorem ct_X4_step (l : Launch) {D : va_G} {ca : Nat → ClassId} {B : Nat → Nat} {N n : Nat} {X : va_W} {u : ww_U} {x : Int32} (j : Nat) (hj : j < 8) (hj2 : j < n) (hxj : x = nI (j + 1)) (hx1 : ¬ x < 1) (hx2 : x ≤ u 29 1) (hn8 : n ≤ 8) (hc : u 29 1 = nI n) (hrun : cu_run n u) (hwr : cu_wr u j) (hNn : 36 + 8 * n ≤ N)  : ww_M l yX4_step wsX4_step ({ frames := 4, cells := 0, slots := 0, locals := 86 } : Room) D ca B N n X u [.ref (B 29), .int x] (some (.int (cu_step n u j).2)) (cu_step n u j).1 := by
  refine ww_met (cc := cX4_step) (maxL := 3) (ret := (some .int)) (by decide) rfl (Nat.le_of_ble_eq_true rfl) ?_
  intro p e s m args below meth c C hN ls hl
  have hl : lv_has ls 3 [(0, .ref (B 29)), (1, .int x)] := hl
  have hx := C.1.1
  have hb := C.1.2.1
  have hNB : 36 ≤ N := by omega
  have hNN : 29 ≤ N := by omega
  refine lv_aload_n hx hb dX4_step_0 rfl (lv_at hl 0 rfl) ?_
  refine lv_iload_n hx hb dX4_step_1 rfl (lv_at hl 1 rfl) ?_
  refine rr_callV (As := [.int x]) C hN 29 (Nat.lt_of_lt_of_le (by decide) hNB) rfl rfl rfl (ct_X4_find l j hj hj2 hxj hNn hx1 hx2) gX4_step_X4_find rfl rfl rfl 1 (by decide +kernel) ⟨Nat.le_of_ble_eq_true rfl, Nat.le_of_ble_eq_true rfl⟩ rfl hl.1 rfl (Nat.le_of_ble_eq_true rfl) ⟨Nat.zero_le _, Nat.zero_le _⟩ dX4_step_2 (fun H locs hN => ?_)
  refine lv_astore_n (lv' := [(2, .ref (B (kC j))), (0, .ref (B 29)), (1, .int x)]) hx hb dX4_step_5 rfl hl (by decide) rfl (fun ls hl => ?_)
  refine lv_aload_n hx hb dX4_step_6 rfl (lv_at hl 0 rfl) ?_
  refine lv_ifnonnull (tgt := 12) hx hb dX4_step_7 (by decide) ?_
  refine lv_aload_n hx hb dX4_step_12 rfl (lv_at hl 0 rfl) ?_
  refine rr_callV (As := []) C hN (kC j) (kC_lt hNn hj2) hC_ce rfl rfl (ct_X1_isAway l hj2 hNn) gX4_step_X1_isAway rfl rfl rfl 0 (by decide +kernel) ⟨Nat.le_of_ble_eq_true rfl, Nat.le_of_ble_eq_true rfl⟩ rfl hl.1 rfl (Nat.le_of_ble_eq_true rfl) ⟨Nat.zero_le _, Nat.zero_le _⟩ dX4_step_13 (fun H locs hN => ?_)
  refine lv_topi (fun v1 ev1 => ?_)
  refine lv_if_eq (tgt := 22) hx hb dX4_step_16 (by decide) (fun c_16 => ?_) (fun c_16 => ?_)
  · have hAw : cu_away u j = 0 := by rw [← ev1]; exact c_16
    refine lv_aload_n hx hb dX4_step_22 rfl (lv_at hl 0 rfl) ?_
    refine rr_get C hN (kC j) (kC_lt hNn hj2) hC_ce rfl kw_X4_step_X1 2 (by decide) (List.mem_of_getElem? (i := 1) rfl) (v := .ref (B (kP j))) rfl dX4_step_23 ?_
    refine rr_get C hN (kP j) (kP_lt hNn hj2) hP_ce rfl kw_X4_step_X3 4 (by decide) (List.mem_of_getElem? (i := 2) rfl) (v := .int (u (kP j) 4)) rfl dX4_step_26 ?_
    refine lv_iconst (v := 2) hx hb dX4_step_29 (by decide) ?_
    refine lv_icmp_ne (tgt := 39) hx hb dX4_step_30 (by decide) (fun c_30 => ?_) (fun c_30 => ?_)
    · refine lv_aload_n hx hb dX4_step_39 rfl (lv_at hl 0 rfl) ?_
      refine rr_get C hN (kC j) (kC_lt hNn hj2) hC_ce rfl kw_X4_step_X1 2 (by decide) (List.mem_of_getElem? (i := 1) rfl) (v := .ref (B (kP j))) rfl dX4_step_40 ?_
      refine rr_get C hN (kP j) (kP_lt hNn hj2) hP_ce rfl kw_X4_step_X3 4 (by decide) (List.mem_of_getElem? (i := 2) rfl) (v := .int (u (kP j) 4)) rfl dX4_step_43 ?_
      refine lv_iconst (v := 1) hx hb dX4_step_46 (by decide) ?_
      refine lv_icmp_ne (tgt := 61) hx hb dX4_step_47 (by decide) (fun c_47 => ?_) (fun c_47 => ?_)
      · refine lv_aload_n hx hb dX4_step_61 rfl (lv_at hl 0 rfl) ?_
        refine rr_get C hN (kC j) (kC_lt hNn hj2) hC_ce rfl kw_X4_step_X1 2 (by decide) (List.mem_of_getElem? (i := 1) rfl) (v := .ref (B (kP j))) rfl dX4_step_62 ?_
        refine rr_get C hN (kP j) (kP_lt hNn hj2) hP_ce rfl kw_X4_step_X3 4 (by decide) (List.mem_of_getElem? (i := 2) rfl) (v := .int (u (kP j) 4)) rfl dX4_step_65 ?_
        exact rr_iret C hN dX4_step_68 (by unfold cu_step; rw [if_pos hAw, if_neg c_30, if_neg c_47]) (by unfold cu_step; rw [if_pos hAw, if_neg c_30, if_neg c_47])
      · refine lv_aload_n hx hb dX4_step_50 rfl (lv_at hl 1 rfl) ?_
        refine rr_callV (As := []) C hN 29 (Nat.lt_of_lt_of_le (by decide) hNB) rfl rfl rfl (ct_X4_bothHold l hNn) gX4_step_X4_bothHold rfl rfl rfl 0 (by decide +kernel) ⟨Nat.le_of_ble_eq_true rfl, Nat.le_of_ble_eq_true rfl⟩ rfl hl.1 rfl (Nat.le_of_ble_eq_true rfl) ⟨Nat.zero_le _, Nat.zero_le _⟩ dX4_step_51 (fun H locs hN => ?_)
        refine lv_topi (fun v2 ev2 => ?_)
        refine lv_if_eq (tgt := 61) hx hb dX4_step_54 (by decide) (fun c_54 => ?_) (fun c_54 => ?_)
        · have hHo : cu_hold u = 0 := by rw [← ev2]; exact c_54
          refine lv_aload_n hx hb dX4_step_61 rfl (lv_at hl 0 rfl) ?_
          refine rr_get C hN (kC j) (kC_lt hNn hj2) hC_ce rfl kw_X4_step_X1 2 (by decide) (List.mem_of_getElem? (i := 1) rfl) (v := .ref (B (kP j))) rfl dX4_step_62 ?_
          refine rr_get C hN (kP j) (kP_lt hNn hj2) hP_ce rfl kw_X4_step_X3 4 (by decide) (List.mem_of_getElem? (i := 2) rfl) (v := .int (u (kP j) 4)) rfl dX4_step_65 ?_
          exact rr_iret C hN dX4_step_68 (by unfold cu_step; rw [if_pos hAw, if_neg c_30, if_pos c_47, if_pos hHo]) (by unfold cu_step; rw [if_pos hAw, if_neg c_30, if_pos c_47, if_pos hHo])
        · have hHo : ¬ cu_hold u = 0 := by rw [← ev2]; exact c_54
          refine lv_aload_n hx hb dX4_step_57 rfl (lv_at hl 0 rfl) ?_
          obtain ⟨w, len, hwe, hle, hw, hlen⟩ := hwr c_47
          obtain ⟨b0, hb0, hbe0⟩ := hrun j hj2
          have hwt : cu_wrt u j = cu_write u j (1 - b0) w len := by unfold cu_wrt; rw [cu_b_of hb0 hbe0, hwe, hle, nI_clamp (by omega), nI_clamp (by omega)]
          refine rr_callV0 (As := []) C hN (kC j) (kC_lt hNn hj2) hC_ce rfl rfl (ct_X1_writeNextBlock l hj2 (b := 1 - b0) (w := w) (len := len) (by omega) (by rw [hbe0]; congr 1; omega) hlen hle hw hwe hNn) gX4_step_X1_writeNextBlock rfl rfl rfl 0 (by decide +kernel) ⟨Nat.le_of_ble_eq_true rfl, Nat.le_of_ble_eq_true rfl⟩ rfl hl.1 rfl (Nat.le_of_ble_eq_true rfl) ⟨Nat.zero_le _, Nat.zero_le _⟩ dX4_step_58 (fun H locs hN => ?_)
          obtain ⟨u3, eu3⟩ : ∃ y : ww_U, y = cu_write u j (1 - b0) w len := ⟨_, rfl⟩
          rw [← eu3] at hN
          refine lv_aload_n hx hb dX4_step_61 rfl (lv_at hl 0 rfl) ?_
          refine rr_get C hN (kC j) (kC_lt hNn hj2) hC_ce rfl kw_X4_step_X1 2 (by decide) (List.mem_of_getElem? (i := 1) rfl) (v := .ref (B (kP j))) rfl dX4_step_62 ?_
          refine rr_get C hN (kP j) (kP_lt hNn hj2) hP_ce rfl kw_X4_step_X3 4 (by decide) (List.mem_of_getElem? (i := 2) rfl) (v := .int (u3 (kP j) 4)) rfl dX4_step_65 ?_
          have hE : cu_step n u j = (cu_wrt u j, cu_wrt u j (kP j) 4) := by unfold cu_step; rw [if_pos hAw, if_neg c_30, if_pos c_47, if_neg hHo]
          exact rr_iret C hN dX4_step_68 (by rw [hE, hwt, ← eu3]) (by rw [hE, hwt, ← eu3])
    · refine lv_aload_n hx hb dX4_step_33 rfl (lv_at hl 1 rfl) ?_
      refine lv_aload_n hx hb dX4_step_34 rfl (lv_at hl 0 rfl) ?_
      refine rr_callV (As := [.ref (B (kC j))]) C hN 29 (Nat.lt_of_lt_of_le (by decide) hNB) rfl rfl rfl (ct_X4_stepOfReady l hj2 hNn hn8 hc hrun) gX4_step_X4_stepOfReady rfl rfl rfl 1 (by decide +kernel) ⟨Nat.le_of_ble_eq_true rfl, Nat.le_of_ble_eq_true rfl⟩ rfl hl.1 rfl (Nat.le_of_ble_eq_true rfl) ⟨Nat.zero_le _, Nat.zero_le _⟩ dX4_step_35 (fun H locs hN => ?_)
      obtain ⟨u4, eu4⟩ : ∃ y : ww_U, y = (cu_ready n u j).1 := ⟨_, rfl⟩
      rw [← eu4] at hN
      refine lv_topi (fun v5 ev5 => ?_)
      exact rr_iret C hN dX4_step_38 (by unfold cu_step; rw [if_pos hAw, if_pos c_30]; subst_vars; rfl) (by unfold cu_step; rw [if_pos hAw, if_pos c_30]; subst_vars; rfl)
  · refine lv_bipush (v := (-3)) hx hb dX4_step_19 (by decide) ?_
    exact rr_iret C hN dX4_step_21 (by unfold cu_step; rw [if_neg (by subst_vars; assumption)]) (by unfold cu_step; rw [if_neg (by subst_vars; assumption)])
theorem ct_X4_findOpen1 (l : Launch) {D : va_G} {ca : Nat → ClassId} {B : Nat → Nat} {N n : Nat} {X : va_W} {u : ww_U} (a : Int32) {i : Nat} (hNn : 36 + 8 * n ≤ N) (hn8 : n ≤ 8) (hc : u 29 1 = nI n) (hf : cu_fo n 0 a u = some i) : ww_M l yX4_findOpen wsX4_findOpen ({ frames := 0, cells := 0, slots := 0, locals := 0 } : Room) D ca B N n X u [.ref (B 29), .int a] (some (.ref (B (kP i)))) u := by
  have h := ct_X4_findOpen l (D := D) (ca := ca) (B := B) (X := X) a hNn hn8 hc
  rw [hf] at h
  exact h
theorem ct_X4_findOpen0 (l : Launch) {D : va_G} {ca : Nat → ClassId} {B : Nat → Nat} {N n : Nat} {X : va_W} {u : ww_U} (a : Int32) (hNn : 36 + 8 * n ≤ N) (hn8 : n ≤ 8) (hc : u 29 1 = nI n) (hf : cu_fo n 0 a u = none) : ww_M l yX4_findOpen wsX4_findOpen ({ frames := 0, cells := 0, slots := 0, locals := 0 } : Room) D ca B N n X u [.ref (B 29), .int a] (some .null) u := by
  have h := ct_X4_findOpen l (D := D) (ca := ca) (B := B) (X := X) a hNn hn8 hc
  rw [hf] at h
  exact h
set_option maxHeartbeats 4000000 in
set_option maxRecDepth 100000 in
theorem ct_X4_needs_00 (l : Launch) {D : va_G} {ca : Nat → ClassId} {B : Nat → Nat} {N n : Nat} {X : va_W} {u : ww_U} {y z : Int32} (hn8 : n ≤ 8) (hc : u 29 1 = nI n) (hfa : cu_fo n 0 y u = none) (hfb : cu_fo n 0 z u = none) (hNn : 36 + 8 * n ≤ N)  : ww_M l yX4_needs wsX4_needs ({ frames := 2, cells := 0, slots := 0, locals := 46 } : Room) D ca B N n X u [.ref (B 29), .int y, .int z] (some (.int (cu_needs n u y z).2)) (cu_needs n u y z).1 := by
  refine ww_met (cc := cX4_needs) (maxL := 5) (ret := (some .int)) (by decide) rfl (Nat.le_of_ble_eq_true rfl) ?_
  intro p e s m args below meth c C hN ls hl
  have hl : lv_has ls 5 [(0, .ref (B 29)), (1, .int y), (2, .int z)] := hl
  have hx := C.1.1
  have hb := C.1.2.1
  have hNB : 36 ≤ N := by omega
  have hNN : 29 ≤ N := by omega
  refine lv_aload_n hx hb dX4_needs_0 rfl (lv_at hl 0 rfl) ?_
  refine lv_iload_n hx hb dX4_needs_1 rfl (lv_at hl 1 rfl) ?_
  refine rr_callV (As := [.int y]) C hN 29 (Nat.lt_of_lt_of_le (by decide) hNB) rfl rfl rfl (ct_X4_isPackage l y hNn) gX4_needs_X4_isPackage rfl rfl rfl 1 (by decide +kernel) ⟨Nat.le_of_ble_eq_true rfl, Nat.le_of_ble_eq_true rfl⟩ rfl hl.1 rfl (Nat.le_of_ble_eq_true rfl) ⟨Nat.zero_le _, Nat.zero_le _⟩ dX4_needs_2 (fun H locs hN => ?_)
  refine lv_topi (fun v1 ev1 => ?_)
  refine lv_if_eq (tgt := 16) hx hb dX4_needs_5 (by decide) (fun c_5 => ?_) (fun c_5 => ?_)
  · refine lv_iconst (v := (-1)) hx hb dX4_needs_16 (by decide) ?_
    exact rr_iret C hN dX4_needs_17 (by subst_vars; simp only [cu_needs, hfa, hfb]; first | done | ((repeat' split) <;> first | rfl | contradiction | simp_all)) (by subst_vars; simp only [cu_needs, hfa, hfb]; first | done | ((repeat' split) <;> first | rfl | contradiction | simp_all))
  · refine lv_aload_n hx hb dX4_needs_8 rfl (lv_at hl 0 rfl) ?_
    refine lv_iload_n hx hb dX4_needs_9 rfl (lv_at hl 2 rfl) ?_
    refine rr_callV (As := [.int z]) C hN 29 (Nat.lt_of_lt_of_le (by decide) hNB) rfl rfl rfl (ct_X4_isPackage l z hNn) gX4_needs_X4_isPackage rfl rfl rfl 1 (by decide +kernel) ⟨Nat.le_of_ble_eq_true rfl, Nat.le_of_ble_eq_true rfl⟩ rfl hl.1 rfl (Nat.le_of_ble_eq_true rfl) ⟨Nat.zero_le _, Nat.zero_le _⟩ dX4_needs_10 (fun H locs hN => ?_)
    refine lv_topi (fun v2 ev2 => ?_)
    refine lv_if_ne (tgt := 18) hx hb dX4_needs_13 (by decide) (fun c_13 => ?_) (fun c_13 => ?_)
    · refine lv_iload_n hx hb dX4_needs_18 rfl (lv_at hl 1 rfl) ?_
      refine lv_iload_n hx hb dX4_needs_19 rfl (lv_at hl 2 rfl) ?_
      refine lv_icmp_ne (tgt := 26) hx hb dX4_needs_20 (by decide) (fun c_20 => ?_) (fun c_20 => ?_)
      · refine lv_aload_n hx hb dX4_needs_26 rfl (lv_at hl 0 rfl) ?_
        refine lv_iload_n hx hb dX4_needs_27 rfl (lv_at hl 1 rfl) ?_
        refine rr_callV (As := [.int y]) C hN 29 (Nat.lt_of_lt_of_le (by decide) hNB) rfl rfl rfl (ct_X4_findOpen0 l _ hNn hn8 hc hfa) gX4_needs_X4_findOpen rfl rfl rfl 1 (by decide +kernel) ⟨Nat.le_of_ble_eq_true rfl, Nat.le_of_ble_eq_true rfl⟩ rfl hl.1 rfl (Nat.le_of_ble_eq_true rfl) ⟨Nat.zero_le _, Nat.zero_le _⟩ dX4_needs_28 (fun H locs hN => ?_)
        refine lv_astore_nN (lv' := [(3, .null), (0, .ref (B 29)), (1, .int y), (2, .int z)]) hx hb dX4_needs_31 rfl hl (by decide) rfl (fun ls hl => ?_)
        refine lv_aload_n hx hb dX4_needs_32 rfl (lv_at hl 1 rfl) ?_
        refine lv_iload_n hx hb dX4_needs_33 rfl (lv_at hl 3 rfl) ?_
        refine rr_callV (As := [.int z]) C hN 29 (Nat.lt_of_lt_of_le (by decide) hNB) rfl rfl rfl (ct_X4_findOpen0 l _ hNn hn8 hc hfb) gX4_needs_X4_findOpen rfl rfl rfl 1 (by decide +kernel) ⟨Nat.le_of_ble_eq_true rfl, Nat.le_of_ble_eq_true rfl⟩ rfl hl.1 rfl (Nat.le_of_ble_eq_true rfl) ⟨Nat.zero_le _, Nat.zero_le _⟩ dX4_needs_34 (fun H locs hN => ?_)
        refine lv_astoreN (lv' := [(4, .null), (3, .null), (0, .ref (B 29)), (1, .int y), (2, .int z)]) hx hb dX4_needs_37 hl (by decide) rfl (fun ls hl => ?_)
        refine lv_aload_nN hx hb dX4_needs_39 rfl (lv_at hl 1 rfl) ?_
        refine lv_ifnullN (tgt := 63) hx hb dX4_needs_40 (by decide) ?_
        refine lv_bipush (v := (-3)) hx hb dX4_needs_63 (by decide) ?_
        exact rr_iret C hN dX4_needs_65 (by subst_vars; simp only [cu_needs, hfa, hfb]; first | done | ((repeat' split) <;> first | rfl | contradiction | simp_all)) (by subst_vars; simp only [cu_needs, hfa, hfb]; first | done | ((repeat' split) <;> first | rfl | contradiction | simp_all))
      · refine lv_bipush (v := (-2)) hx hb dX4_needs_23 (by decide) ?_
        exact rr_iret C hN dX4_needs_25 (by subst_vars; simp only [cu_needs, hfa, hfb]; first | done | ((repeat' split) <;> first | rfl | contradiction | simp_all)) (by subst_vars; simp only [cu_needs, hfa, hfb]; first | done | ((repeat' split) <;> first | rfl | contradiction | simp_all))
    · refine lv_iconst (v := (-1)) hx hb dX4_needs_16 (by decide) ?_
      exact rr_iret C hN dX4_needs_17 (by subst_vars; simp only [cu_needs, hfa, hfb]; first | done | ((repeat' split) <;> first | rfl | contradiction | simp_all)) (by subst_vars; simp only [cu_needs, hfa, hfb]; first | done | ((repeat' split) <;> first | rfl | contradiction | simp_all))
set_option maxHeartbeats 4000000 in
set_option maxRecDepth 100000 in
theorem ct_X4_needs_01 (l : Launch) {D : va_G} {ca : Nat → ClassId} {B : Nat → Nat} {N n : Nat} {X : va_W} {u : ww_U} {y z : Int32} {j : Nat} (hj : j < n) (hn8 : n ≤ 8) (hc : u 29 1 = nI n) (hfa : cu_fo n 0 y u = none) (hfb : cu_fo n 0 z u = some j) (hNn : 36 + 8 * n ≤ N)  : ww_M l yX4_needs wsX4_needs ({ frames := 2, cells := 0, slots := 0, locals := 46 } : Room) D ca B N n X u [.ref (B 29), .int y, .int z] (some (.int (cu_needs n u y z).2)) (cu_needs n u y z).1 := by
  refine ww_met (cc := cX4_needs) (maxL := 5) (ret := (some .int)) (by decide) rfl (Nat.le_of_ble_eq_true rfl) ?_
  intro p e s m args below meth c C hN ls hl
  have hl : lv_has ls 5 [(0, .ref (B 29)), (1, .int y), (2, .int z)] := hl
  have hx := C.1.1
  have hb := C.1.2.1
  have hNB : 36 ≤ N := by omega
  have hNN : 29 ≤ N := by omega
  refine lv_aload_n hx hb dX4_needs_0 rfl (lv_at hl 0 rfl) ?_
  refine lv_iload_n hx hb dX4_needs_1 rfl (lv_at hl 1 rfl) ?_
  refine rr_callV (As := [.int y]) C hN 29 (Nat.lt_of_lt_of_le (by decide) hNB) rfl rfl rfl (ct_X4_isPackage l y hNn) gX4_needs_X4_isPackage rfl rfl rfl 1 (by decide +kernel) ⟨Nat.le_of_ble_eq_true rfl, Nat.le_of_ble_eq_true rfl⟩ rfl hl.1 rfl (Nat.le_of_ble_eq_true rfl) ⟨Nat.zero_le _, Nat.zero_le _⟩ dX4_needs_2 (fun H locs hN => ?_)
  refine lv_topi (fun v1 ev1 => ?_)
  refine lv_if_eq (tgt := 16) hx hb dX4_needs_5 (by decide) (fun c_5 => ?_) (fun c_5 => ?_)
  · refine lv_iconst (v := (-1)) hx hb dX4_needs_16 (by decide) ?_
    exact rr_iret C hN dX4_needs_17 (by subst_vars; simp only [cu_needs, hfa, hfb]; first | done | ((repeat' split) <;> first | rfl | contradiction | simp_all)) (by subst_vars; simp only [cu_needs, hfa, hfb]; first | done | ((repeat' split) <;> first | rfl | contradiction | simp_all))
  · refine lv_aload_n hx hb dX4_needs_8 rfl (lv_at hl 0 rfl) ?_
    refine lv_iload_n hx hb dX4_needs_9 rfl (lv_at hl 2 rfl) ?_
    refine rr_callV (As := [.int z]) C hN 29 (Nat.lt_of_lt_of_le (by decide) hNB) rfl rfl rfl (ct_X4_isPackage l z hNn) gX4_needs_X4_isPackage rfl rfl rfl 1 (by decide +kernel) ⟨Nat.le_of_ble_eq_true rfl, Nat.le_of_ble_eq_true rfl⟩ rfl hl.1 rfl (Nat.le_of_ble_eq_true rfl) ⟨Nat.zero_le _, Nat.zero_le _⟩ dX4_needs_10 (fun H locs hN => ?_)
    refine lv_topi (fun v2 ev2 => ?_)
    refine lv_if_ne (tgt := 18) hx hb dX4_needs_13 (by decide) (fun c_13 => ?_) (fun c_13 => ?_)
    · refine lv_iload_n hx hb dX4_needs_18 rfl (lv_at hl 1 rfl) ?_
      refine lv_iload_n hx hb dX4_needs_19 rfl (lv_at hl 2 rfl) ?_
      refine lv_icmp_ne (tgt := 26) hx hb dX4_needs_20 (by decide) (fun c_20 => ?_) (fun c_20 => ?_)
      · refine lv_aload_n hx hb dX4_needs_26 rfl (lv_at hl 0 rfl) ?_
        refine lv_iload_n hx hb dX4_needs_27 rfl (lv_at hl 1 rfl) ?_
        refine rr_callV (As := [.int y]) C hN 29 (Nat.lt_of_lt_of_le (by decide) hNB) rfl rfl rfl (ct_X4_findOpen0 l _ hNn hn8 hc hfa) gX4_needs_X4_findOpen rfl rfl rfl 1 (by decide +kernel) ⟨Nat.le_of_ble_eq_true rfl, Nat.le_of_ble_eq_true rfl⟩ rfl hl.1 rfl (Nat.le_of_ble_eq_true rfl) ⟨Nat.zero_le _, Nat.zero_le _⟩ dX4_needs_28 (fun H locs hN => ?_)
        refine lv_astore_nN (lv' := [(3, .null), (0, .ref (B 29)), (1, .int y), (2, .int z)]) hx hb dX4_needs_31 rfl hl (by decide) rfl (fun ls hl => ?_)
        refine lv_aload_n hx hb dX4_needs_32 rfl (lv_at hl 1 rfl) ?_
        refine lv_iload_n hx hb dX4_needs_33 rfl (lv_at hl 3 rfl) ?_
        refine rr_callV (As := [.int z]) C hN 29 (Nat.lt_of_lt_of_le (by decide) hNB) rfl rfl rfl (ct_X4_findOpen1 l _ hNn hn8 hc hfb) gX4_needs_X4_findOpen rfl rfl rfl 1 (by decide +kernel) ⟨Nat.le_of_ble_eq_true rfl, Nat.le_of_ble_eq_true rfl⟩ rfl hl.1 rfl (Nat.le_of_ble_eq_true rfl) ⟨Nat.zero_le _, Nat.zero_le _⟩ dX4_needs_34 (fun H locs hN => ?_)
        refine lv_astore (lv' := [(4, .ref (B (kP j))), (3, .null), (0, .ref (B 29)), (1, .int y), (2, .int z)]) hx hb dX4_needs_37 hl (by decide) rfl (fun ls hl => ?_)
        refine lv_aload_nN hx hb dX4_needs_39 rfl (lv_at hl 1 rfl) ?_
        refine lv_ifnullN (tgt := 63) hx hb dX4_needs_40 (by decide) ?_
        refine lv_bipush (v := (-3)) hx hb dX4_needs_63 (by decide) ?_
        exact rr_iret C hN dX4_needs_65 (by subst_vars; simp only [cu_needs, hfa, hfb]; first | done | ((repeat' split) <;> first | rfl | contradiction | simp_all)) (by subst_vars; simp only [cu_needs, hfa, hfb]; first | done | ((repeat' split) <;> first | rfl | contradiction | simp_all))
      · refine lv_bipush (v := (-2)) hx hb dX4_needs_23 (by decide) ?_
        exact rr_iret C hN dX4_needs_25 (by subst_vars; simp only [cu_needs, hfa, hfb]; first | done | ((repeat' split) <;> first | rfl | contradiction | simp_all)) (by subst_vars; simp only [cu_needs, hfa, hfb]; first | done | ((repeat' split) <;> first | rfl | contradiction | simp_all))
    · refine lv_iconst (v := (-1)) hx hb dX4_needs_16 (by decide) ?_
      exact rr_iret C hN dX4_needs_17 (by subst_vars; simp only [cu_needs, hfa, hfb]; first | done | ((repeat' split) <;> first | rfl | contradiction | simp_all)) (by subst_vars; simp only [cu_needs, hfa, hfb]; first | done | ((repeat' split) <;> first | rfl | contradiction | simp_all))
set_option maxHeartbeats 4000000 in
set_option maxRecDepth 100000 in
theorem ct_X4_needs_10 (l : Launch) {D : va_G} {ca : Nat → ClassId} {B : Nat → Nat} {N n : Nat} {X : va_W} {u : ww_U} {y z : Int32} {i : Nat} (hi : i < n) (hn8 : n ≤ 8) (hc : u 29 1 = nI n) (hfa : cu_fo n 0 y u = some i) (hfb : cu_fo n 0 z u = none) (hNn : 36 + 8 * n ≤ N)  : ww_M l yX4_needs wsX4_needs ({ frames := 2, cells := 0, slots := 0, locals := 46 } : Room) D ca B N n X u [.ref (B 29), .int y, .int z] (some (.int (cu_needs n u y z).2)) (cu_needs n u y z).1 := by
  refine ww_met (cc := cX4_needs) (maxL := 5) (ret := (some .int)) (by decide) rfl (Nat.le_of_ble_eq_true rfl) ?_
  intro p e s m args below meth c C hN ls hl
  have hl : lv_has ls 5 [(0, .ref (B 29)), (1, .int y), (2, .int z)] := hl
  have hx := C.1.1
  have hb := C.1.2.1
  have hNB : 36 ≤ N := by omega
  have hNN : 29 ≤ N := by omega
  refine lv_aload_n hx hb dX4_needs_0 rfl (lv_at hl 0 rfl) ?_
  refine lv_iload_n hx hb dX4_needs_1 rfl (lv_at hl 1 rfl) ?_
  refine rr_callV (As := [.int y]) C hN 29 (Nat.lt_of_lt_of_le (by decide) hNB) rfl rfl rfl (ct_X4_isPackage l y hNn) gX4_needs_X4_isPackage rfl rfl rfl 1 (by decide +kernel) ⟨Nat.le_of_ble_eq_true rfl, Nat.le_of_ble_eq_true rfl⟩ rfl hl.1 rfl (Nat.le_of_ble_eq_true rfl) ⟨Nat.zero_le _, Nat.zero_le _⟩ dX4_needs_2 (fun H locs hN => ?_)
  refine lv_topi (fun v1 ev1 => ?_)
  refine lv_if_eq (tgt := 16) hx hb dX4_needs_5 (by decide) (fun c_5 => ?_) (fun c_5 => ?_)
  · refine lv_iconst (v := (-1)) hx hb dX4_needs_16 (by decide) ?_
    exact rr_iret C hN dX4_needs_17 (by subst_vars; simp only [cu_needs, hfa, hfb]; first | done | ((repeat' split) <;> first | rfl | contradiction | simp_all)) (by subst_vars; simp only [cu_needs, hfa, hfb]; first | done | ((repeat' split) <;> first | rfl | contradiction | simp_all))
  · refine lv_aload_n hx hb dX4_needs_8 rfl (lv_at hl 0 rfl) ?_
    refine lv_iload_n hx hb dX4_needs_9 rfl (lv_at hl 2 rfl) ?_
    refine rr_callV (As := [.int z]) C hN 29 (Nat.lt_of_lt_of_le (by decide) hNB) rfl rfl rfl (ct_X4_isPackage l z hNn) gX4_needs_X4_isPackage rfl rfl rfl 1 (by decide +kernel) ⟨Nat.le_of_ble_eq_true rfl, Nat.le_of_ble_eq_true rfl⟩ rfl hl.1 rfl (Nat.le_of_ble_eq_true rfl) ⟨Nat.zero_le _, Nat.zero_le _⟩ dX4_needs_10 (fun H locs hN => ?_)
    refine lv_topi (fun v2 ev2 => ?_)
    refine lv_if_ne (tgt := 18) hx hb dX4_needs_13 (by decide) (fun c_13 => ?_) (fun c_13 => ?_)
    · refine lv_iload_n hx hb dX4_needs_18 rfl (lv_at hl 1 rfl) ?_
      refine lv_iload_n hx hb dX4_needs_19 rfl (lv_at hl 2 rfl) ?_
      refine lv_icmp_ne (tgt := 26) hx hb dX4_needs_20 (by decide) (fun c_20 => ?_) (fun c_20 => ?_)
      · refine lv_aload_n hx hb dX4_needs_26 rfl (lv_at hl 0 rfl) ?_
        refine lv_iload_n hx hb dX4_needs_27 rfl (lv_at hl 1 rfl) ?_
        refine rr_callV (As := [.int y]) C hN 29 (Nat.lt_of_lt_of_le (by decide) hNB) rfl rfl rfl (ct_X4_findOpen1 l _ hNn hn8 hc hfa) gX4_needs_X4_findOpen rfl rfl rfl 1 (by decide +kernel) ⟨Nat.le_of_ble_eq_true rfl, Nat.le_of_ble_eq_true rfl⟩ rfl hl.1 rfl (Nat.le_of_ble_eq_true rfl) ⟨Nat.zero_le _, Nat.zero_le _⟩ dX4_needs_28 (fun H locs hN => ?_)
        refine lv_astore_n (lv' := [(3, .ref (B (kP i))), (0, .ref (B 29)), (1, .int y), (2, .int z)]) hx hb dX4_needs_31 rfl hl (by decide) rfl (fun ls hl => ?_)
        refine lv_aload_n hx hb dX4_needs_32 rfl (lv_at hl 1 rfl) ?_
        refine lv_iload_n hx hb dX4_needs_33 rfl (lv_at hl 3 rfl) ?_
        refine rr_callV (As := [.int z]) C hN 29 (Nat.lt_of_lt_of_le (by decide) hNB) rfl rfl rfl (ct_X4_findOpen0 l _ hNn hn8 hc hfb) gX4_needs_X4_findOpen rfl rfl rfl 1 (by decide +kernel) ⟨Nat.le_of_ble_eq_true rfl, Nat.le_of_ble_eq_true rfl⟩ rfl hl.1 rfl (Nat.le_of_ble_eq_true rfl) ⟨Nat.zero_le _, Nat.zero_le _⟩ dX4_needs_34 (fun H locs hN => ?_)
        refine lv_astoreN (lv' := [(4, .null), (3, .ref (B (kP i))), (0, .ref (B 29)), (1, .int y), (2, .int z)]) hx hb dX4_needs_37 hl (by decide) rfl (fun ls hl => ?_)
        refine lv_aload_n hx hb dX4_needs_39 rfl (lv_at hl 1 rfl) ?_
        refine lv_ifnull hx hb dX4_needs_40 ?_
        refine lv_aloadN hx hb dX4_needs_43 (lv_at hl 0 rfl) ?_
        refine lv_ifnullN (tgt := 63) hx hb dX4_needs_45 (by decide) ?_
        refine lv_bipush (v := (-3)) hx hb dX4_needs_63 (by decide) ?_
        exact rr_iret C hN dX4_needs_65 (by subst_vars; simp only [cu_needs, hfa, hfb]; first | done | ((repeat' split) <;> first | rfl | contradiction | simp_all)) (by subst_vars; simp only [cu_needs, hfa, hfb]; first | done | ((repeat' split) <;> first | rfl | contradiction | simp_all))
      · refine lv_bipush (v := (-2)) hx hb dX4_needs_23 (by decide) ?_
        exact rr_iret C hN dX4_needs_25 (by subst_vars; simp only [cu_needs, hfa, hfb]; first | done | ((repeat' split) <;> first | rfl | contradiction | simp_all)) (by subst_vars; simp only [cu_needs, hfa, hfb]; first | done | ((repeat' split) <;> first | rfl | contradiction | simp_all))
    · refine lv_iconst (v := (-1)) hx hb dX4_needs_16 (by decide) ?_
      exact rr_iret C hN dX4_needs_17 (by subst_vars; simp only [cu_needs, hfa, hfb]; first | done | ((repeat' split) <;> first | rfl | contradiction | simp_all)) (by subst_vars; simp only [cu_needs, hfa, hfb]; first | done | ((repeat' split) <;> first | rfl | contradiction | simp_all))
set_option maxRecDepth 20000 in
theorem kw_X4_needs_X3 : ww_K wsX4_needs RX3 TX3 8 tyX3 := ⟨by decide +kernel, tyX3_ok, nmX3⟩
set_option maxHeartbeats 4000000 in
set_option maxRecDepth 100000 in
theorem ct_X4_needs_11 (l : Launch) {D : va_G} {ca : Nat → ClassId} {B : Nat → Nat} {N n : Nat} {X : va_W} {u : ww_U} {y z : Int32} {i : Nat} (hi : i < n) {j : Nat} (hj : j < n) (hn8 : n ≤ 8) (hc : u 29 1 = nI n) (hfa : cu_fo n 0 y u = some i) (hfb : cu_fo n 0 z u = some j) (hNn : 36 + 8 * n ≤ N)  : ww_M l yX4_needs wsX4_needs ({ frames := 2, cells := 0, slots := 0, locals := 46 } : Room) D ca B N n X u [.ref (B 29), .int y, .int z] (some (.int (cu_needs n u y z).2)) (cu_needs n u y z).1 := by
  refine ww_met (cc := cX4_needs) (maxL := 5) (ret := (some .int)) (by decide) rfl (Nat.le_of_ble_eq_true rfl) ?_
  intro p e s m args below meth c C hN ls hl
  have hl : lv_has ls 5 [(0, .ref (B 29)), (1, .int y), (2, .int z)] := hl
  have hx := C.1.1
  have hb := C.1.2.1
  have hNB : 36 ≤ N := by omega
  have hNN : 29 ≤ N := by omega
  refine lv_aload_n hx hb dX4_needs_0 rfl (lv_at hl 0 rfl) ?_
  refine lv_iload_n hx hb dX4_needs_1 rfl (lv_at hl 1 rfl) ?_
  refine rr_callV (As := [.int y]) C hN 29 (Nat.lt_of_lt_of_le (by decide) hNB) rfl rfl rfl (ct_X4_isPackage l y hNn) gX4_needs_X4_isPackage rfl rfl rfl 1 (by decide +kernel) ⟨Nat.le_of_ble_eq_true rfl, Nat.le_of_ble_eq_true rfl⟩ rfl hl.1 rfl (Nat.le_of_ble_eq_true rfl) ⟨Nat.zero_le _, Nat.zero_le _⟩ dX4_needs_2 (fun H locs hN => ?_)
  refine lv_topi (fun v1 ev1 => ?_)
  refine lv_if_eq (tgt := 16) hx hb dX4_needs_5 (by decide) (fun c_5 => ?_) (fun c_5 => ?_)
  · refine lv_iconst (v := (-1)) hx hb dX4_needs_16 (by decide) ?_
    exact rr_iret C hN dX4_needs_17 (by subst_vars; simp only [cu_needs, hfa, hfb]; first | done | ((repeat' split) <;> first | rfl | contradiction | simp_all)) (by subst_vars; simp only [cu_needs, hfa, hfb]; first | done | ((repeat' split) <;> first | rfl | contradiction | simp_all))
  · refine lv_aload_n hx hb dX4_needs_8 rfl (lv_at hl 0 rfl) ?_
    refine lv_iload_n hx hb dX4_needs_9 rfl (lv_at hl 2 rfl) ?_
    refine rr_callV (As := [.int z]) C hN 29 (Nat.lt_of_lt_of_le (by decide) hNB) rfl rfl rfl (ct_X4_isPackage l z hNn) gX4_needs_X4_isPackage rfl rfl rfl 1 (by decide +kernel) ⟨Nat.le_of_ble_eq_true rfl, Nat.le_of_ble_eq_true rfl⟩ rfl hl.1 rfl (Nat.le_of_ble_eq_true rfl) ⟨Nat.zero_le _, Nat.zero_le _⟩ dX4_needs_10 (fun H locs hN => ?_)
    refine lv_topi (fun v2 ev2 => ?_)
    refine lv_if_ne (tgt := 18) hx hb dX4_needs_13 (by decide) (fun c_13 => ?_) (fun c_13 => ?_)
    · refine lv_iload_n hx hb dX4_needs_18 rfl (lv_at hl 1 rfl) ?_
      refine lv_iload_n hx hb dX4_needs_19 rfl (lv_at hl 2 rfl) ?_
      refine lv_icmp_ne (tgt := 26) hx hb dX4_needs_20 (by decide) (fun c_20 => ?_) (fun c_20 => ?_)
      · refine lv_aload_n hx hb dX4_needs_26 rfl (lv_at hl 0 rfl) ?_
        refine lv_iload_n hx hb dX4_needs_27 rfl (lv_at hl 1 rfl) ?_
        refine rr_callV (As := [.int y]) C hN 29 (Nat.lt_of_lt_of_le (by decide) hNB) rfl rfl rfl (ct_X4_findOpen1 l _ hNn hn8 hc hfa) gX4_needs_X4_findOpen rfl rfl rfl 1 (by decide +kernel) ⟨Nat.le_of_ble_eq_true rfl, Nat.le_of_ble_eq_true rfl⟩ rfl hl.1 rfl (Nat.le_of_ble_eq_true rfl) ⟨Nat.zero_le _, Nat.zero_le _⟩ dX4_needs_28 (fun H locs hN => ?_)
        refine lv_astore_n (lv' := [(3, .ref (B (kP i))), (0, .ref (B 29)), (1, .int y), (2, .int z)]) hx hb dX4_needs_31 rfl hl (by decide) rfl (fun ls hl => ?_)
        refine lv_aload_n hx hb dX4_needs_32 rfl (lv_at hl 1 rfl) ?_
        refine lv_iload_n hx hb dX4_needs_33 rfl (lv_at hl 3 rfl) ?_
        refine rr_callV (As := [.int z]) C hN 29 (Nat.lt_of_lt_of_le (by decide) hNB) rfl rfl rfl (ct_X4_findOpen1 l _ hNn hn8 hc hfb) gX4_needs_X4_findOpen rfl rfl rfl 1 (by decide +kernel) ⟨Nat.le_of_ble_eq_true rfl, Nat.le_of_ble_eq_true rfl⟩ rfl hl.1 rfl (Nat.le_of_ble_eq_true rfl) ⟨Nat.zero_le _, Nat.zero_le _⟩ dX4_needs_34 (fun H locs hN => ?_)
        refine lv_astore (lv' := [(4, .ref (B (kP j))), (3, .ref (B (kP i))), (0, .ref (B 29)), (1, .int y), (2, .int z)]) hx hb dX4_needs_37 hl (by decide) rfl (fun ls hl => ?_)
        refine lv_aload_n hx hb dX4_needs_39 rfl (lv_at hl 1 rfl) ?_
        refine lv_ifnull hx hb dX4_needs_40 ?_
        refine lv_aload hx hb dX4_needs_43 (lv_at hl 0 rfl) ?_
        refine lv_ifnull hx hb dX4_needs_45 ?_
        refine lv_aload_n hx hb dX4_needs_48 rfl (lv_at hl 1 rfl) ?_
        refine rr_get C hN (kP i) (kP_lt hNn hi) hP_ce rfl kw_X4_needs_X3 7 (by decide) (List.mem_of_getElem? (i := 1) rfl) (v := .int (u (kP i) 7)) rfl dX4_needs_49 ?_
        refine lv_if_ne (tgt := 63) hx hb dX4_needs_52 (by decide) (fun c_52 => ?_) (fun c_52 => ?_)
        · refine lv_bipush (v := (-3)) hx hb dX4_needs_63 (by decide) ?_
          exact rr_iret C hN dX4_needs_65 (by subst_vars; simp only [cu_needs, hfa, hfb]; first | done | ((repeat' split) <;> first | rfl | contradiction | simp_all)) (by subst_vars; simp only [cu_needs, hfa, hfb]; first | done | ((repeat' split) <;> first | rfl | contradiction | simp_all))
        · refine lv_aload hx hb dX4_needs_55 (lv_at hl 0 rfl) ?_
          refine rr_get C hN (kP j) (kP_lt hNn hj) hP_ce rfl kw_X4_needs_X3 7 (by decide) (List.mem_of_getElem? (i := 1) rfl) (v := .int (u (kP j) 7)) rfl dX4_needs_57 ?_
          refine lv_if_eq (tgt := 66) hx hb dX4_needs_60 (by decide) (fun c_60 => ?_) (fun c_60 => ?_)
          · refine lv_aload_n hx hb dX4_needs_66 rfl (lv_at hl 2 rfl) ?_
            refine lv_aload_n hx hb dX4_needs_67 rfl (lv_at hl 1 rfl) ?_
            refine rr_get C hN (kP i) (kP_lt hNn hi) hP_ce rfl kw_X4_needs_X3 6 (by decide) (List.mem_of_getElem? (i := 2) rfl) (v := .int (u (kP i) 6)) rfl dX4_needs_68 ?_
            refine lv_aload hx hb dX4_needs_71 (lv_at hl 0 rfl) ?_
            refine rr_get C hN (kP j) (kP_lt hNn hj) hP_ce rfl kw_X4_needs_X3 6 (by decide) (List.mem_of_getElem? (i := 2) rfl) (v := .int (u (kP j) 6)) rfl dX4_needs_73 ?_
            refine rr_callV (As := [.int (u (kP i) 6), .int (u (kP j) 6)]) C hN 29 (Nat.lt_of_lt_of_le (by decide) hNB) rfl rfl rfl (ct_X4_joinSets l (u (kP i) 6) (u (kP j) 6) hNn hn8 hc) gX4_needs_X4_joinSets rfl rfl rfl 2 (by decide +kernel) ⟨Nat.le_of_ble_eq_true rfl, Nat.le_of_ble_eq_true rfl⟩ rfl hl.1 rfl (Nat.le_of_ble_eq_true rfl) ⟨Nat.zero_le _, Nat.zero_le _⟩ dX4_needs_76 (fun H locs hN => ?_)
            obtain ⟨u3, eu3⟩ : ∃ y : ww_U, y = (cu_join n 0 (u (kP i) 6) (u (kP j) 6) u 0).1 := ⟨_, rfl⟩
            rw [← eu3] at hN
            refine lv_topi (fun v4 ev4 => ?_)
            exact rr_iret C hN dX4_needs_79 (by subst_vars; simp only [cu_needs, hfa, hfb]; first | done | ((repeat' split) <;> first | rfl | contradiction | simp_all)) (by subst_vars; simp only [cu_needs, hfa, hfb]; first | done | ((repeat' split) <;> first | rfl | contradiction | simp_all))
          · refine lv_bipush (v := (-3)) hx hb dX4_needs_63 (by decide) ?_
            exact rr_iret C hN dX4_needs_65 (by subst_vars; simp only [cu_needs, hfa, hfb]; first | done | ((repeat' split) <;> first | rfl | contradiction | simp_all)) (by subst_vars; simp only [cu_needs, hfa, hfb]; first | done | ((repeat' split) <;> first | rfl | contradiction | simp_all))
      · refine lv_bipush (v := (-2)) hx hb dX4_needs_23 (by decide) ?_
        exact rr_iret C hN dX4_needs_25 (by subst_vars; simp only [cu_needs, hfa, hfb]; first | done | ((repeat' split) <;> first | rfl | contradiction | simp_all)) (by subst_vars; simp only [cu_needs, hfa, hfb]; first | done | ((repeat' split) <;> first | rfl | contradiction | simp_all))
    · refine lv_iconst (v := (-1)) hx hb dX4_needs_16 (by decide) ?_
      exact rr_iret C hN dX4_needs_17 (by subst_vars; simp only [cu_needs, hfa, hfb]; first | done | ((repeat' split) <;> first | rfl | contradiction | simp_all)) (by subst_vars; simp only [cu_needs, hfa, hfb]; first | done | ((repeat' split) <;> first | rfl | contradiction | simp_all))
theorem ct_X4_needs (l : Launch) {D : va_G} {ca : Nat → ClassId} {B : Nat → Nat} {N n : Nat} {X : va_W} {u : ww_U} (y z : Int32) (hNn : 36 + 8 * n ≤ N) (hn8 : n ≤ 8) (hc : u 29 1 = nI n) : ww_M l yX4_needs wsX4_needs ({ frames := 2, cells := 0, slots := 0, locals := 46 } : Room) D ca B N n X u [.ref (B 29), .int y, .int z] (some (.int (cu_needs n u y z).2)) (cu_needs n u y z).1 := by
  cases hfa : cu_fo n 0 y u with
  | none =>
    cases hfb : cu_fo n 0 z u with
    | none => exact ct_X4_needs_00 l hn8 hc hfa hfb hNn
    | some j => exact ct_X4_needs_01 l (cu_fo_lt (by omega) hfb) hn8 hc hfa hfb hNn
  | some i =>
    cases hfb : cu_fo n 0 z u with
    | none => exact ct_X4_needs_10 l (cu_fo_lt (by omega) hfa) hn8 hc hfa hfb hNn
    | some j => exact ct_X4_needs_11 l (cu_fo_lt (by omega) hfa) (cu_fo_lt (by omega) hfb) hn8 hc hfa hfb hNn
end
section
section WS
variable {p : Program} {l : Launch} {e : Env} {R : Room} {s : State} {m : MethodId} {args : Array Value} {below : List Frame} {meth : Method} {c : Code} {H : Heap} {locs : List Loc} {cells slots : Nat} {Q : State → Prop}
variable {D : va_G} {ca : Nat → ClassId} {own : String} {cc : ByteArray} {nL : Nat} {Ts : List Cond} {ret : Option FieldType} {A : Nat → Prop} {B : Nat → Nat} {N n : Nat} {u : ww_U} {X : va_W} {pc : Nat} {ls : Array Slot} {rest : List Value}
theorem rr_gets (C : ww_C D ca own cc nL Ts ret A p s m args meth c) (hN : ww_N D ca B N n u X A s.heap H locs) {Cn nm d : String} {t index : Nat} (hZ : va_Z Cn nm d (.ref t) A s s.heap) (hlink : Cond.fieldLink own index Cn nm d ∈ Ts) (hdg : decode cc pc = .ok (.getstatic index, 3))
    (kk : W p l e R s m args below meth c H locs cells slots Q (F0 m (pc + 3) ls (.ref t :: rest))) : W p l e R s m args below meth c H locs cells slots Q (F0 m pc ls rest) :=
  va_gets C.1.1 C.1.2.1 hZ hN.2.2 C.1.2.2.2.1 (C.1.2.2.2.2 _ hlink) (fun _ h => h) hdg kk
theorem rr_tald (C : ww_C D ca own cc nL Ts ret A p s m args meth c) (hN : ww_N D ca B N n u X A s.heap H locs) {t len : Nat} {f : Nat → Int32} (hT : va_T .int t len (fun j => .int (f j)) A s s.heap) (hl : len < 2 ^ 31) {i : Int32} (j : Nat) (hj : j < len) (hij : i = nI j) (hdg : decode cc pc = .ok (.iaload, 1))
    (kk : W p l e R s m args below meth c H locs cells slots Q (F0 m (pc + 1) ls (.int (f j) :: rest))) : W p l e R s m args below meth c H locs cells slots Q (F0 m pc ls (.int i :: .ref t :: rest)) := by
  obtain ⟨h1, h2⟩ := ww_ix hj hij hl
  exact va_ti C.1.1 C.1.2.1 hT hN.2.2 h1 (by rw [h2]) hdg kk
end WS
def sh_t (x n : Int32) : Int32 := (x.toUInt32 >>> (n.toUInt32 &&& Int32.toUInt32 31)).toInt32 ||| (x <<< ((32 - n) &&& 31))
def sh_sp (x p q r : Int32) : Int32 := (sh_t x p ^^^ sh_t x q) ^^^ (x.toUInt32 >>> (r.toUInt32 &&& Int32.toUInt32 31)).toInt32
def sh_ts (x p q r : Int32) : Int32 := (sh_t x p ^^^ sh_t x q) ^^^ sh_t x r
def sh_w (u : ww_U) (j : Nat) : Int32 := ((((u 33 j &&& 255) <<< ((24 : Int32) &&& 31)) ||| ((u 33 (j + 1) &&& 255) <<< ((16 : Int32) &&& 31))) ||| ((u 33 (j + 2) &&& 255) <<< ((8 : Int32) &&& 31))) ||| (u 33 (j + 3) &&& 255)
def cl_lay : Nat → Nat → Nat → ww_U → ww_U
  | 0, _, _, u => u
  | d + 1, k, m, u => cl_lay d (k + 1) m (ww_up u 33 k (vp_nar .byte (if k < m then u 31 k else 0)))
def cl_shr (b : Int64) : Int64 := (b.toUInt64 >>> ((8 : Int32).toInt64.toUInt64 &&& Int64.toUInt64 63)).toInt64
def cl_bits : Nat → Nat → Nat → Int64 → ww_U → ww_U
  | 0, _, _, _, u => u
  | d + 1, k, T, b, u => cl_bits d (k + 1) T (cl_shr b) (ww_up u 33 (T - k) (vp_nar .byte (b.toInt32.toInt8.toInt32)))
def cl_T (m : Nat) : Nat := (m + 8 + 64) / 64 * 64
def cl_layOut (m : Nat) (u : ww_U) : ww_U := cl_bits 8 1 (cl_T m) (8 * (nI m).toInt64) (ww_up (cl_lay (cl_T m) 0 m u) 33 m (vp_nar .byte (-128)))
def cl_f1 : Nat → Nat → Nat → ww_U → ww_U
  | 0, _, _, u => u
  | d + 1, k, f, u => cl_f1 d (k + 1) f (ww_up u 34 k (sh_w u (f + 4 * k)))
def cl_f2 : Nat → Nat → ww_U → ww_U
  | 0, _, u => u
  | d + 1, k, u => cl_f2 d (k + 1) (ww_up u 34 k (((u 34 (k - 16) + sh_sp (u 34 (k - 15)) 7 18 3) + u 34 (k - 7)) + sh_sp (u 34 (k - 2)) 17 19 10))
def cl_fill (f : Nat) (u : ww_U) : ww_U := cl_f2 48 16 (cl_f1 16 0 f u)
def sh_x (h e f g k w : Int32) : Int32 := (((h + sh_ts e 6 11 25) + ((e &&& f) ^^^ ((e ^^^ (-1)) &&& g))) + k) + w
def sh_y (a b c : Int32) : Int32 := sh_ts a 2 13 22 + (((a &&& b) ^^^ (a &&& c)) ^^^ (b &&& c))
def cl_add (u : ww_U) (j : Nat) (x : Int32) : ww_U := ww_up u 35 j (u 35 j + x)
def cl_mix : Nat → Nat → ww_U → Int32 → Int32 → Int32 → Int32 → Int32 → Int32 → Int32 → Int32 → ww_U
  | 0, _, u, a, b, c, d, e, f, g, h => cl_add (cl_add (cl_add (cl_add (cl_add (cl_add (cl_add (cl_add u 0 a) 1 b) 2 c) 3 d) 4 e) 5 f) 6 g) 7 h
  | q + 1, k, u, a, b, c, d, e, f, g, h => cl_mix q (k + 1) u (sh_x h e f g (ww_cu k) (u 34 k) + sh_y a b c) a b c (d + sh_x h e f g (ww_cu k) (u 34 k)) e f g
def cl_mx (u : ww_U) : ww_U := cl_mix 64 0 u (u 35 0) (u 35 1) (u 35 2) (u 35 3) (u 35 4) (u 35 5) (u 35 6) (u 35 7)
def cl_sq : Nat → Nat → ww_U → ww_U
  | 0, _, u => u
  | d + 1, k, u => cl_sq d (k + 1) (ww_up u 35 k (ww_sq k))
def cl_dg : Nat → Nat → ww_U → ww_U
  | 0, _, u => u
  | d + 1, k, u => cl_dg d (k + 1) (cl_mx (cl_fill (64 * k) u))
def cl_digest (m : Nat) (u : ww_U) : ww_U := cl_dg (cl_T m / 64) 0 (cl_sq 8 0 (cl_layOut m u))
set_option maxHeartbeats 4000000 in
set_option maxRecDepth 100000 in
theorem ct_X2_turned (l : Launch) {D : va_G} {ca : Nat → ClassId} {B : Nat → Nat} {N n : Nat} {X : va_W} {u : ww_U} (x y : Int32) (hNB : 36 ≤ N)  : ww_M l yX2_turned wsX2_turned ({ frames := 0, cells := 0, slots := 0, locals := 0 } : Room) D ca B N n X u [.int x, .int y] (some (.int (sh_t x y))) u := by
  refine ww_met (cc := cX2_turned) (maxL := 2) (ret := (some .int)) (by decide) rfl (Nat.le_of_ble_eq_true rfl) ?_
  intro p e s m args below meth c C hN ls hl
  have hl : lv_has ls 2 [(0, .int x), (1, .int y)] := hl
  have hx := C.1.1
  have hb := C.1.2.1
  have hNN : 29 ≤ N := by omega
  refine lv_iload_n hx hb dX2_turned_0 rfl (lv_at hl 0 rfl) ?_
  refine lv_iload_n hx hb dX2_turned_1 rfl (lv_at hl 1 rfl) ?_
  refine lv_iushr hx hb dX2_turned_2 rfl ?_
  refine lv_topi (fun v1 ev1 => ?_)
  refine lv_iload_n hx hb dX2_turned_3 rfl (lv_at hl 0 rfl) ?_
  refine lv_bipush (v := 32) hx hb dX2_turned_4 (by decide) ?_
  refine lv_iload_n hx hb dX2_turned_6 rfl (lv_at hl 1 rfl) ?_
  refine lv_isub hx hb dX2_turned_7 ?_
  refine lv_topi (fun v2 ev2 => ?_)
  refine lv_ishl hx hb dX2_turned_8 ?_
  refine lv_topi (fun v3 ev3 => ?_)
  refine lv_ior hx hb dX2_turned_9 ?_
  refine lv_topi (fun v4 ev4 => ?_)
  exact rr_iret C hN dX2_turned_10 (by subst_vars; rfl) rfl
set_option maxHeartbeats 4000000 in
set_option maxRecDepth 100000 in
theorem ct_X2_spread (l : Launch) {D : va_G} {ca : Nat → ClassId} {B : Nat → Nat} {N n : Nat} {X : va_W} {u : ww_U} (x y z w : Int32) (hNB : 36 ≤ N)  : ww_M l yX2_spread wsX2_spread ({ frames := 1, cells := 0, slots := 0, locals := 21 } : Room) D ca B N n X u [.int x, .int y, .int z, .int w] (some (.int (sh_sp x y z w))) u := by
  refine ww_met (cc := cX2_spread) (maxL := 4) (ret := (some .int)) (by decide) rfl (Nat.le_of_ble_eq_true rfl) ?_
  intro p e s m args below meth c C hN ls hl
  have hl : lv_has ls 4 [(0, .int x), (1, .int y), (2, .int z), (3, .int w)] := hl
  have hx := C.1.1
  have hb := C.1.2.1
  have hNN : 29 ≤ N := by omega
  refine lv_iload_n hx hb dX2_spread_0 rfl (lv_at hl 0 rfl) ?_
  refine lv_iload_n hx hb dX2_spread_1 rfl (lv_at hl 1 rfl) ?_
  refine rr_callS (As := [.int x, .int y]) C hN (ct_X2_turned l x y hNB) gX2_spread_X2_turned rfl rfl rfl 2 (by decide +kernel) ⟨Nat.le_of_ble_eq_true rfl, Nat.le_of_ble_eq_true rfl⟩ rfl hl.1 rfl (Nat.le_of_ble_eq_true rfl) ⟨Nat.zero_le _, Nat.zero_le _⟩ dX2_spread_2 (fun H locs hN => ?_)
  refine lv_topi (fun v1 ev1 => ?_)
  refine lv_iload_n hx hb dX2_spread_5 rfl (lv_at hl 0 rfl) ?_
  refine lv_iload_n hx hb dX2_spread_6 rfl (lv_at hl 2 rfl) ?_
  refine rr_callS (As := [.int x, .int z]) C hN (ct_X2_turned l x z hNB) gX2_spread_X2_turned rfl rfl rfl 2 (by decide +kernel) ⟨Nat.le_of_ble_eq_true rfl, Nat.le_of_ble_eq_true rfl⟩ rfl hl.1 rfl (Nat.le_of_ble_eq_true rfl) ⟨Nat.zero_le _, Nat.zero_le _⟩ dX2_spread_7 (fun H locs hN => ?_)
  refine lv_topi (fun v2 ev2 => ?_)
  refine lv_ixor hx hb dX2_spread_10 ?_
  refine lv_topi (fun v3 ev3 => ?_)
  refine lv_iload_n hx hb dX2_spread_11 rfl (lv_at hl 0 rfl) ?_
  refine lv_iload_n hx hb dX2_spread_12 rfl (lv_at hl 3 rfl) ?_
  refine lv_iushr hx hb dX2_spread_13 rfl ?_
  refine lv_topi (fun v4 ev4 => ?_)
  refine lv_ixor hx hb dX2_spread_14 ?_
  refine lv_topi (fun v5 ev5 => ?_)
  exact rr_iret C hN dX2_spread_15 (by subst_vars; rfl) rfl
set_option maxHeartbeats 4000000 in
set_option maxRecDepth 100000 in
theorem ct_X2_turns (l : Launch) {D : va_G} {ca : Nat → ClassId} {B : Nat → Nat} {N n : Nat} {X : va_W} {u : ww_U} (x y z w : Int32) (hNB : 36 ≤ N)  : ww_M l yX2_turns wsX2_turns ({ frames := 1, cells := 0, slots := 0, locals := 21 } : Room) D ca B N n X u [.int x, .int y, .int z, .int w] (some (.int (sh_ts x y z w))) u := by
  refine ww_met (cc := cX2_turns) (maxL := 4) (ret := (some .int)) (by decide) rfl (Nat.le_of_ble_eq_true rfl) ?_
  intro p e s m args below meth c C hN ls hl
  have hl : lv_has ls 4 [(0, .int x), (1, .int y), (2, .int z), (3, .int w)] := hl
  have hx := C.1.1
  have hb := C.1.2.1
  have hNN : 29 ≤ N := by omega
  refine lv_iload_n hx hb dX2_turns_0 rfl (lv_at hl 0 rfl) ?_
  refine lv_iload_n hx hb dX2_turns_1 rfl (lv_at hl 1 rfl) ?_
  refine rr_callS (As := [.int x, .int y]) C hN (ct_X2_turned l x y hNB) gX2_turns_X2_turned rfl rfl rfl 2 (by decide +kernel) ⟨Nat.le_of_ble_eq_true rfl, Nat.le_of_ble_eq_true rfl⟩ rfl hl.1 rfl (Nat.le_of_ble_eq_true rfl) ⟨Nat.zero_le _, Nat.zero_le _⟩ dX2_turns_2 (fun H locs hN => ?_)
  refine lv_topi (fun v1 ev1 => ?_)
  refine lv_iload_n hx hb dX2_turns_5 rfl (lv_at hl 0 rfl) ?_
  refine lv_iload_n hx hb dX2_turns_6 rfl (lv_at hl 2 rfl) ?_
  refine rr_callS (As := [.int x, .int z]) C hN (ct_X2_turned l x z hNB) gX2_turns_X2_turned rfl rfl rfl 2 (by decide +kernel) ⟨Nat.le_of_ble_eq_true rfl, Nat.le_of_ble_eq_true rfl⟩ rfl hl.1 rfl (Nat.le_of_ble_eq_true rfl) ⟨Nat.zero_le _, Nat.zero_le _⟩ dX2_turns_7 (fun H locs hN => ?_)
  refine lv_topi (fun v2 ev2 => ?_)
  refine lv_ixor hx hb dX2_turns_10 ?_
  refine lv_topi (fun v3 ev3 => ?_)
  refine lv_iload_n hx hb dX2_turns_11 rfl (lv_at hl 0 rfl) ?_
  refine lv_iload_n hx hb dX2_turns_12 rfl (lv_at hl 3 rfl) ?_
  refine rr_callS (As := [.int x, .int w]) C hN (ct_X2_turned l x w hNB) gX2_turns_X2_turned rfl rfl rfl 2 (by decide +kernel) ⟨Nat.le_of_ble_eq_true rfl, Nat.le_of_ble_eq_true rfl⟩ rfl hl.1 rfl (Nat.le_of_ble_eq_true rfl) ⟨Nat.zero_le _, Nat.zero_le _⟩ dX2_turns_13 (fun H locs hN => ?_)
  refine lv_topi (fun v4 ev4 => ?_)
  refine lv_ixor hx hb dX2_turns_16 ?_
  refine lv_topi (fun v5 ev5 => ?_)
  exact rr_iret C hN dX2_turns_17 (by subst_vars; rfl) rfl
set_option maxRecDepth 20000 in
theorem kw_X2_wordAt_X2 : ww_K wsX2_wordAt RX2 TX2 3 tyX2 := ⟨by decide +kernel, tyX2_ok, nmX2⟩
set_option maxHeartbeats 4000000 in
set_option maxRecDepth 100000 in
theorem ct_X2_wordAt (l : Launch) {D : va_G} {ca : Nat → ClassId} {B : Nat → Nat} {N n : Nat} {X : va_W} {u : ww_U} {x : Int32} {j : Nat} (hj : j + 3 < 320) (hxj : x = nI j) (hNB : 36 ≤ N)  : ww_M l yX2_wordAt wsX2_wordAt ({ frames := 0, cells := 0, slots := 0, locals := 0 } : Room) D ca B N n X u [.ref (B 32), .int x] (some (.int (sh_w u j))) u := by
  refine ww_met (cc := cX2_wordAt) (maxL := 2) (ret := (some .int)) (by decide) rfl (Nat.le_of_ble_eq_true rfl) ?_
  intro p e s m args below meth c C hN ls hl
  have hl : lv_has ls 2 [(0, .ref (B 32)), (1, .int x)] := hl
  have hx := C.1.1
  have hb := C.1.2.1
  have hNN : 29 ≤ N := by omega
  refine lv_aload_n hx hb dX2_wordAt_0 rfl (lv_at hl 0 rfl) ?_
  refine rr_get C hN 32 (Nat.lt_of_lt_of_le (by decide) hNB) rfl rfl kw_X2_wordAt_X2 0 (by decide) (List.mem_of_getElem? (i := 1) rfl) (v := .ref (B 33)) rfl dX2_wordAt_1 ?_
  refine lv_iload_n hx hb dX2_wordAt_4 rfl (lv_at hl 1 rfl) ?_
  refine rr_bald C hN 33 (Nat.lt_of_lt_of_le (by decide) hNB) rfl (by decide) j (by omega) hxj dX2_wordAt_5 ?_
  refine lv_sipush (v := 255) hx hb dX2_wordAt_6 (by decide) ?_
  refine lv_iand hx hb dX2_wordAt_9 ?_
  refine lv_topi (fun v1 ev1 => ?_)
  refine lv_bipush (v := 24) hx hb dX2_wordAt_10 (by decide) ?_
  refine lv_ishl hx hb dX2_wordAt_12 ?_
  refine lv_topi (fun v2 ev2 => ?_)
  refine lv_aload_n hx hb dX2_wordAt_13 rfl (lv_at hl 0 rfl) ?_
  refine rr_get C hN 32 (Nat.lt_of_lt_of_le (by decide) hNB) rfl rfl kw_X2_wordAt_X2 0 (by decide) (List.mem_of_getElem? (i := 1) rfl) (v := .ref (B 33)) rfl dX2_wordAt_14 ?_
  refine lv_iload_n hx hb dX2_wordAt_17 rfl (lv_at hl 1 rfl) ?_
  refine lv_iconst (v := 1) hx hb dX2_wordAt_18 (by decide) ?_
  refine lv_iadd hx hb dX2_wordAt_19 ?_
  refine lv_topi (fun v3 ev3 => ?_)
  refine rr_bald C hN 33 (Nat.lt_of_lt_of_le (by decide) hNB) rfl (by decide) (j + 1) (by omega) (by rw [ev3, hxj]; exact nI_add j 1) dX2_wordAt_20 ?_
  refine lv_sipush (v := 255) hx hb dX2_wordAt_21 (by decide) ?_
  refine lv_iand hx hb dX2_wordAt_24 ?_
  refine lv_topi (fun v4 ev4 => ?_)
  refine lv_bipush (v := 16) hx hb dX2_wordAt_25 (by decide) ?_
  refine lv_ishl hx hb dX2_wordAt_27 ?_
  refine lv_topi (fun v5 ev5 => ?_)
  refine lv_ior hx hb dX2_wordAt_28 ?_
  refine lv_topi (fun v6 ev6 => ?_)
  refine lv_aload_n hx hb dX2_wordAt_29 rfl (lv_at hl 0 rfl) ?_
  refine rr_get C hN 32 (Nat.lt_of_lt_of_le (by decide) hNB) rfl rfl kw_X2_wordAt_X2 0 (by decide) (List.mem_of_getElem? (i := 1) rfl) (v := .ref (B 33)) rfl dX2_wordAt_30 ?_
  refine lv_iload_n hx hb dX2_wordAt_33 rfl (lv_at hl 1 rfl) ?_
  refine lv_iconst (v := 2) hx hb dX2_wordAt_34 (by decide) ?_
  refine lv_iadd hx hb dX2_wordAt_35 ?_
  refine lv_topi (fun v7 ev7 => ?_)
  refine rr_bald C hN 33 (Nat.lt_of_lt_of_le (by decide) hNB) rfl (by decide) (j + 2) (by omega) (by rw [ev7, hxj]; exact nI_add j 2) dX2_wordAt_36 ?_
  refine lv_sipush (v := 255) hx hb dX2_wordAt_37 (by decide) ?_
  refine lv_iand hx hb dX2_wordAt_40 ?_
  refine lv_topi (fun v8 ev8 => ?_)
  refine lv_bipush (v := 8) hx hb dX2_wordAt_41 (by decide) ?_
  refine lv_ishl hx hb dX2_wordAt_43 ?_
  refine lv_topi (fun v9 ev9 => ?_)
  refine lv_ior hx hb dX2_wordAt_44 ?_
  refine lv_topi (fun v10 ev10 => ?_)
  refine lv_aload_n hx hb dX2_wordAt_45 rfl (lv_at hl 0 rfl) ?_
  refine rr_get C hN 32 (Nat.lt_of_lt_of_le (by decide) hNB) rfl rfl kw_X2_wordAt_X2 0 (by decide) (List.mem_of_getElem? (i := 1) rfl) (v := .ref (B 33)) rfl dX2_wordAt_46 ?_
  refine lv_iload_n hx hb dX2_wordAt_49 rfl (lv_at hl 1 rfl) ?_
  refine lv_iconst (v := 3) hx hb dX2_wordAt_50 (by decide) ?_
  refine lv_iadd hx hb dX2_wordAt_51 ?_
  refine lv_topi (fun v11 ev11 => ?_)
  refine rr_bald C hN 33 (Nat.lt_of_lt_of_le (by decide) hNB) rfl (by decide) (j + 3) (by omega) (by rw [ev11, hxj]; exact nI_add j 3) dX2_wordAt_52 ?_
  refine lv_sipush (v := 255) hx hb dX2_wordAt_53 (by decide) ?_
  refine lv_iand hx hb dX2_wordAt_56 ?_
  refine lv_topi (fun v12 ev12 => ?_)
  refine lv_ior hx hb dX2_wordAt_57 ?_
  refine lv_topi (fun v13 ev13 => ?_)
  exact rr_iret C hN dX2_wordAt_58 (by subst_vars; rfl) rfl
set_option maxRecDepth 20000 in
theorem kw_X2_layOut_X2 : ww_K wsX2_layOut RX2 TX2 3 tyX2 := ⟨by decide +kernel, tyX2_ok, nmX2⟩
set_option maxHeartbeats 4000000 in
set_option maxRecDepth 100000 in
theorem lp_X2_layOut2 {p : Program} {l : Launch} {e : Env} {s : State} {m : MethodId} {args : Array Value} {below : List Frame} {meth : Method} {c : Code} {D : va_G} {ca : Nat → ClassId} {B : Nat → Nat} {N n : Nat} {X : va_W} (C : ww_C D ca yX2_layOut.cls cX2_layOut 7 wsX2_layOut (some .int) (ww_A B N X s.heap.size) p s m args meth c) (hNB : 36 ≤ N) (cnt tot : Int32) {T : Nat} (hT : T ≤ 320) (hT8 : 64 ≤ T) (htot : tot = nI T) {r : Option Value} {u' : ww_U} : ∀ (d k : Nat) (x : Int32) (bb : Int64) (u : ww_U), k + d = 9 → 1 ≤ k → x = nI k → r = some (.int tot) → u' = cl_bits d k T bb u → ∀ (H : Heap) (locs : List Loc) (ls : Array Slot), ww_N D ca B N n u X (ww_A B N X s.heap.size) s.heap H locs → lv_has ls 7 [(0, .ref (B 32)), (1, .ref (B 31)), (2, .int cnt), (3, .int tot), (4, .long bb), (6, .int x)] → W p l e (headSpec wsX2_layOut ({ frames := 0, cells := 0, slots := 0, locals := 0 } : Room)).room s m args below meth c H locs 0 0 (MQ below (ww_Q D ca B N n X s.heap.size r u') args s 0 0 (ww_A B N X s.heap.size)) (F0 m 69 ls []) := by
  have hx := C.1.1
  have hb := C.1.2.1
  have hNN : 29 ≤ N := by omega
  intro d
  induction d with
  | zero =>
    intro k x bb u hkd hk1 hxk hr hu H locs ls hN hl
    refine lv_iload hx hb dX2_layOut_69 (lv_at hl 5 rfl) ?_
    refine lv_bipush (v := 8) hx hb dX2_layOut_71 (by decide) ?_
    refine lv_icmp_gt (tgt := 102) hx hb dX2_layOut_73 (by decide) (fun c_73 => ?_) (fun c_73 => absurd c_73 (fun h => h (by rw [hxk, show k = 9 by omega]; decide)))
    refine lv_iload_n hx hb dX2_layOut_102 rfl (lv_at hl 3 rfl) ?_
    exact rr_iret C hN dX2_layOut_103 hr hu
  | succ d ih =>
    intro k x bb u hkd hk1 hxk hr hu H locs ls hN hl
    refine lv_iload hx hb dX2_layOut_69 (lv_at hl 5 rfl) ?_
    refine lv_bipush (v := 8) hx hb dX2_layOut_71 (by decide) ?_
    refine lv_icmp_gt (tgt := 102) hx hb dX2_layOut_73 (by decide) (fun c_73 => absurd c_73 (by rw [hxk]; exact (show ¬ nI 8 < nI k from nI_nlt (by omega) (by omega)))) (fun c_73 => ?_)
    refine lv_aload_n hx hb dX2_layOut_76 rfl (lv_at hl 0 rfl) ?_
    refine rr_get C hN 32 (Nat.lt_of_lt_of_le (by decide) hNB) rfl rfl kw_X2_layOut_X2 0 (by decide) (List.mem_of_getElem? (i := 1) rfl) (v := .ref (B 33)) rfl dX2_layOut_77 ?_
    refine lv_iload_n hx hb dX2_layOut_80 rfl (lv_at hl 3 rfl) ?_
    refine lv_iload hx hb dX2_layOut_81 (lv_at hl 5 rfl) ?_
    refine lv_isub hx hb dX2_layOut_83 ?_
    refine lv_topi (fun vs1 evs1 => ?_)
    refine lv_lload hx hb dX2_layOut_84 (lv_at hl 4 rfl) ?_
    refine lv_l2i hx hb dX2_layOut_86 rfl ?_
    refine lv_topi (fun vs2 evs2 => ?_)
    refine lv_i2b hx hb dX2_layOut_87 rfl ?_
    refine lv_topi (fun vs3 evs3 => ?_)
    refine rr_bast C hN 33 (Nat.lt_of_lt_of_le (by decide) hNB) (fun _ => rfl) (by decide) (T - k) (by omega) (by rw [evs1, htot, hxk]; exact pk_sub (by omega)) dX2_layOut_88 (fun us4 eus4 H locs hN => ?_)
    refine lv_lload hx hb dX2_layOut_89 (lv_at hl 4 rfl) ?_
    refine lv_bipush (v := 8) hx hb dX2_layOut_91 (by decide) ?_
    refine lv_lushr hx hb dX2_layOut_93 rfl ?_
    refine lv_topl (fun vs5 evs5 => ?_)
    refine lv_lstore (lv' := [(4, .long vs5), (0, .ref (B 32)), (1, .ref (B 31)), (2, .int cnt), (3, .int tot), (6, .int x)]) hx hb dX2_layOut_94 hl (by decide) rfl (fun ls hl => ?_)
    obtain ⟨vs6, evs6⟩ : ∃ y : Int32, y = x + 1 := ⟨_, rfl⟩
    refine lv_iinc (v := vs6) (lv' := [(6, .int vs6), (4, .long vs5), (0, .ref (B 32)), (1, .ref (B 31)), (2, .int cnt), (3, .int tot)]) hx hb dX2_layOut_96 hl (k := 5) rfl (by rw [evs6]; rfl) (by decide) rfl (fun ls hl => ?_)
    refine lv_goto (tgt := 69) hx hb dX2_layOut_99 (by decide) ?_
    exact ih (k + 1) vs6 vs5 us4 (by omega) (by omega) (by rw [evs6, hxk]; exact nI_1 k) hr (hu.trans (by subst_vars; rfl)) H locs ls hN (lv_sub hl [2, 3, 4, 5, 1, 0] rfl)
set_option maxHeartbeats 4000000 in
set_option maxRecDepth 100000 in
theorem lp_X2_layOut1 {p : Program} {l : Launch} {e : Env} {s : State} {m : MethodId} {args : Array Value} {below : List Frame} {meth : Method} {c : Code} {D : va_G} {ca : Nat → ClassId} {B : Nat → Nat} {N n : Nat} {X : va_W} (C : ww_C D ca yX2_layOut.cls cX2_layOut 7 wsX2_layOut (some .int) (ww_A B N X s.heap.size) p s m args meth c) (hNB : 36 ≤ N) (cnt tot : Int32) {mm T : Nat} (hm : mm ≤ 256) (hmT : mm + 9 ≤ T) (hcm : cnt = nI mm) (hT : T ≤ 320) (htot : tot = nI T) (hT8 : 64 ≤ T)  {r : Option Value} {u' : ww_U} : ∀ (d k : Nat) (x : Int32) (u : ww_U), k + d = T → (x = nI k) → r = some (.int tot) → u' = cl_bits 8 1 T (8 * (nI mm).toInt64) (ww_up (cl_lay d k mm u) 33 mm (vp_nar .byte (-128))) → ∀ (H : Heap) (locs : List Loc) (ls : Array Slot), ww_N D ca B N n u X (ww_A B N X s.heap.size) s.heap H locs → lv_has ls 7 [(0, .ref (B 32)), (1, .ref (B 31)), (2, .int cnt), (3, .int tot), (4, .int x)] → W p l e (headSpec wsX2_layOut ({ frames := 0, cells := 0, slots := 0, locals := 0 } : Room)).room s m args below meth c H locs 0 0 (MQ below (ww_Q D ca B N n X s.heap.size r u') args s 0 0 (ww_A B N X s.heap.size)) (F0 m 17 ls []) := by
  have hx := C.1.1
  have hb := C.1.2.1
  have hNN : 29 ≤ N := by omega
  intro d
  induction d with
  | zero =>
    intro k x u hkd hxk hr hu H locs ls hN hl
    refine lv_iload hx hb dX2_layOut_17 (lv_at hl 4 rfl) ?_
    refine lv_iload_n hx hb dX2_layOut_19 rfl (lv_at hl 3 rfl) ?_
    refine lv_icmp_ge (tgt := 50) hx hb dX2_layOut_20 (by decide) (fun c_20 => ?_) (fun c_20 => absurd c_20 (fun h => h (by rw [htot, hxk, show k = T by omega]; exact nI_le (Nat.le_refl _) (by omega))))
    refine lv_aload_n hx hb dX2_layOut_50 rfl (lv_at hl 0 rfl) ?_
    refine rr_get C hN 32 (Nat.lt_of_lt_of_le (by decide) hNB) rfl rfl kw_X2_layOut_X2 0 (by decide) (List.mem_of_getElem? (i := 1) rfl) (v := .ref (B 33)) rfl dX2_layOut_51 ?_
    refine lv_iload_n hx hb dX2_layOut_54 rfl (lv_at hl 2 rfl) ?_
    refine lv_bipush (v := (-128)) hx hb dX2_layOut_55 (by decide) ?_
    refine rr_bast C hN 33 (Nat.lt_of_lt_of_le (by decide) hNB) (fun _ => rfl) (by decide) mm (by omega) hcm dX2_layOut_57 (fun uz1 euz1 H locs hN => ?_)
    refine lv_ldc2 (v := 8) hx hb C.1.2.2.2.1 (C.1.2.2.2.2 _ (List.mem_of_getElem? (i := 2) rfl)) dX2_layOut_58 ?_
    refine lv_iload_n hx hb dX2_layOut_61 rfl (lv_at hl 2 rfl) ?_
    refine lv_i2l hx hb dX2_layOut_62 rfl ?_
    refine lv_topl (fun vz2 evz2 => ?_)
    refine lv_lmul hx hb dX2_layOut_63 ?_
    refine lv_topl (fun vz3 evz3 => ?_)
    refine lv_lstore (lv' := [(4, .long vz3), (0, .ref (B 32)), (1, .ref (B 31)), (2, .int cnt), (3, .int tot)]) hx hb dX2_layOut_64 hl (by decide) rfl (fun ls hl => ?_)
    refine lv_iconst (v := 1) hx hb dX2_layOut_66 (by decide) ?_
    refine lv_istore (lv' := [(6, .int 1), (4, .long vz3), (0, .ref (B 32)), (1, .ref (B 31)), (2, .int cnt), (3, .int tot)]) hx hb dX2_layOut_67 hl (by decide) rfl (fun ls hl => ?_)
    exact lp_X2_layOut2 C hNB cnt tot hT hT8 htot 8 1 1 vz3 uz1 (by omega) (by omega) rfl hr (hu.trans (by subst_vars; rfl)) H locs ls hN (lv_sub hl [2, 3, 4, 5, 1, 0] rfl)
  | succ d ih =>
    intro k x u hkd hxk hr hu H locs ls hN hl
    refine lv_iload hx hb dX2_layOut_17 (lv_at hl 4 rfl) ?_
    refine lv_iload_n hx hb dX2_layOut_19 rfl (lv_at hl 3 rfl) ?_
    refine lv_icmp_ge (tgt := 50) hx hb dX2_layOut_20 (by decide) (fun c_20 => absurd c_20 (by rw [htot, hxk]; exact nI_ge (by omega) (by omega))) (fun c_20 => ?_)
    refine lv_aload_n hx hb dX2_layOut_23 rfl (lv_at hl 0 rfl) ?_
    refine rr_get C hN 32 (Nat.lt_of_lt_of_le (by decide) hNB) rfl rfl kw_X2_layOut_X2 0 (by decide) (List.mem_of_getElem? (i := 1) rfl) (v := .ref (B 33)) rfl dX2_layOut_24 ?_
    refine lv_iload hx hb dX2_layOut_27 (lv_at hl 4 rfl) ?_
    refine lv_iload hx hb dX2_layOut_29 (lv_at hl 4 rfl) ?_
    refine lv_iload_n hx hb dX2_layOut_31 rfl (lv_at hl 2 rfl) ?_
    refine lv_icmp_ge (tgt := 42) hx hb dX2_layOut_32 (by decide) (fun c_32 => ?_) (fun c_32 => ?_)
    · have hkm : ¬ k < mm := fun q => nI_ge q (by omega) (by rw [← hcm, ← hxk]; exact c_32)
      refine lv_iconst (v := 0) hx hb dX2_layOut_42 (by decide) ?_
      refine rr_bast C hN 33 (Nat.lt_of_lt_of_le (by decide) hNB) (fun _ => rfl) (by decide) k (by omega) hxk dX2_layOut_43 (fun us1 eus1 H locs hN => ?_)
      obtain ⟨vs2, evs2⟩ : ∃ y : Int32, y = x + 1 := ⟨_, rfl⟩
      refine lv_iinc (v := vs2) (lv' := [(4, .int vs2), (0, .ref (B 32)), (1, .ref (B 31)), (2, .int cnt), (3, .int tot)]) hx hb dX2_layOut_44 hl (k := 4) rfl (by rw [evs2]; rfl) (by decide) rfl (fun ls hl => ?_)
      refine lv_goto (tgt := 17) hx hb dX2_layOut_47 (by decide) ?_
      exact ih (k + 1) vs2 us1 (by omega) (by rw [evs2, hxk]; exact nI_1 k) hr (hu.trans (by rw [eus1]; simp only [cl_lay, hkm, if_true, if_false, ite_true, ite_false, if_pos, if_neg, not_false_eq_true])) H locs ls hN (lv_sub hl [1, 2, 3, 4, 0] rfl)
    · have hkm : k < mm := by rcases Nat.lt_or_ge k mm with q | q; exact q; exact absurd (by rw [hcm, hxk]; exact nI_le q (by omega)) c_32
      refine lv_aload_n hx hb dX2_layOut_35 rfl (lv_at hl 1 rfl) ?_
      refine lv_iload hx hb dX2_layOut_36 (lv_at hl 4 rfl) ?_
      refine rr_bald C hN 31 (Nat.lt_of_lt_of_le (by decide) hNB) rfl (by decide) k (by omega) hxk dX2_layOut_38 ?_
      refine lv_goto (tgt := 43) hx hb dX2_layOut_39 (by decide) ?_
      refine rr_bast C hN 33 (Nat.lt_of_lt_of_le (by decide) hNB) (fun _ => rfl) (by decide) k (by omega) hxk dX2_layOut_43 (fun us3 eus3 H locs hN => ?_)
      obtain ⟨vs4, evs4⟩ : ∃ y : Int32, y = x + 1 := ⟨_, rfl⟩
      refine lv_iinc (v := vs4) (lv' := [(4, .int vs4), (0, .ref (B 32)), (1, .ref (B 31)), (2, .int cnt), (3, .int tot)]) hx hb dX2_layOut_44 hl (k := 4) rfl (by rw [evs4]; rfl) (by decide) rfl (fun ls hl => ?_)
      refine lv_goto (tgt := 17) hx hb dX2_layOut_47 (by decide) ?_
      exact ih (k + 1) vs4 us3 (by omega) (by rw [evs4, hxk]; exact nI_1 k) hr (hu.trans (by rw [eus3]; simp only [cl_lay, hkm, if_true, if_false, ite_true, ite_false, if_pos, if_neg, not_false_eq_true])) H locs ls hN (lv_sub hl [1, 2, 3, 4, 0] rfl)
end
section
theorem cl_T_eq (m : Nat) : cl_T m = (m + 8 + 64) / 64 * 64 := rfl
def cl_oct (u : ww_U) (i : Nat) : Int32 := ((u 35 (i / 4)).toUInt32 >>> ((24 - 8 * (nI i &&& 3) : Int32).toUInt32 &&& Int32.toUInt32 31)).toInt32.toInt8.toInt32
set_option maxHeartbeats 4000000 in
set_option maxRecDepth 100000 in
theorem ct_X2_layOut (l : Launch) {D : va_G} {ca : Nat → ClassId} {B : Nat → Nat} {N n : Nat} {X : va_W} {u : ww_U} {mm : Nat} (hm : mm ≤ 256) (hNB : 36 ≤ N)  : ww_M l yX2_layOut wsX2_layOut ({ frames := 0, cells := 0, slots := 0, locals := 0 } : Room) D ca B N n X u [.ref (B 32), .ref (B 31), .int (nI mm)] (some (.int (nI (cl_T mm)))) (cl_layOut mm u) := by
  refine ww_met (cc := cX2_layOut) (maxL := 7) (ret := (some .int)) (by decide) rfl (Nat.le_of_ble_eq_true rfl) ?_
  intro p e s m args below meth c C hN ls hl
  have hl : lv_has ls 7 [(0, .ref (B 32)), (1, .ref (B 31)), (2, .int (nI mm))] := hl
  have hx := C.1.1
  have hb := C.1.2.1
  have hNN : 29 ≤ N := by omega
  refine lv_iload_n hx hb dX2_layOut_0 rfl (lv_at hl 2 rfl) ?_
  refine lv_bipush (v := 8) hx hb dX2_layOut_1 (by decide) ?_
  refine lv_iadd hx hb dX2_layOut_3 ?_
  refine lv_topi (fun v1 ev1 => ?_)
  refine lv_bipush (v := 64) hx hb dX2_layOut_4 (by decide) ?_
  refine lv_iadd hx hb dX2_layOut_6 ?_
  refine lv_topi (fun v2 ev2 => ?_)
  refine lv_bipush (v := 64) hx hb dX2_layOut_7 (by decide) ?_
  refine lv_idiv hx hb dX2_layOut_9 (by decide) ?_
  refine lv_topi (fun v3 ev3 => ?_)
  refine lv_bipush (v := 64) hx hb dX2_layOut_10 (by decide) ?_
  refine lv_imul hx hb dX2_layOut_12 ?_
  refine lv_topi (fun v4 ev4 => ?_)
  refine lv_istore_n (lv' := [(3, .int v4), (0, .ref (B 32)), (1, .ref (B 31)), (2, .int (nI mm))]) hx hb dX2_layOut_13 rfl hl (by decide) rfl (fun ls hl => ?_)
  refine lv_iconst (v := 0) hx hb dX2_layOut_14 (by decide) ?_
  refine lv_istore (lv' := [(4, .int 0), (3, .int v4), (0, .ref (B 32)), (1, .ref (B 31)), (2, .int (nI mm))]) hx hb dX2_layOut_15 hl (by decide) rfl (fun ls hl => ?_)
  have htot : v4 = nI (cl_T mm) := by rw [ev4, ev3, ev2, ev1]; exact (congrArg (fun z : Int32 => (z + 64) / 64 * 64) (nI_add mm 8)).trans ((congrArg (fun z : Int32 => z / 64 * 64) (nI_add (mm + 8) 64)).trans ((congrArg (fun z : Int32 => z * 64) (pk_div (d := 64) (by omega) (by decide) (by decide))).trans (pk_mul _ 64)))
  have hTT := cl_T_eq mm
  exact lp_X2_layOut1 C hNB (nI mm) v4 (mm := mm) (T := cl_T mm) hm (by omega) rfl (by omega) htot (by omega) (cl_T mm) 0 0 u (by omega) rfl (by rw [htot]) rfl _ _ ls hN (lv_sub hl [2, 3, 4, 1, 0] rfl)
set_option maxRecDepth 20000 in
theorem kw_X2_fillSchedule_X2 : ww_K wsX2_fillSchedule RX2 TX2 3 tyX2 := ⟨by decide +kernel, tyX2_ok, nmX2⟩
set_option maxHeartbeats 4000000 in
set_option maxRecDepth 100000 in
theorem lp_X2_fill2 {p : Program} {l : Launch} {e : Env} {s : State} {m : MethodId} {args : Array Value} {below : List Frame} {meth : Method} {c : Code} {D : va_G} {ca : Nat → ClassId} {B : Nat → Nat} {N n : Nat} {X : va_W} (C : ww_C D ca yX2_fillSchedule.cls cX2_fillSchedule 3 wsX2_fillSchedule none (ww_A B N X s.heap.size) p s m args meth c) (hNB : 36 ≤ N) (fr : Int32)  {r : Option Value} {u' : ww_U} : ∀ (d k : Nat) (x : Int32) (u : ww_U), k + d = 64 → (x = nI k) → (16 ≤ k) → r = none → u' = cl_f2 d k u → ∀ (H : Heap) (locs : List Loc) (ls : Array Slot), ww_N D ca B N n u X (ww_A B N X s.heap.size) s.heap H locs → lv_has ls 3 [(0, .ref (B 32)), (1, .int fr), (2, .int x)] → W p l e (headSpec wsX2_fillSchedule ({ frames := 2, cells := 0, slots := 0, locals := 44 } : Room)).room s m args below meth c H locs 0 0 (MQ below (ww_Q D ca B N n X s.heap.size r u') args s 0 0 (ww_A B N X s.heap.size)) (F0 m 32 ls []) := by
  have hx := C.1.1
  have hb := C.1.2.1
  have hNN : 29 ≤ N := by omega
  intro d
  induction d with
  | zero =>
    intro k x u hkd hxk hk16 hr hu H locs ls hN hl
    refine lv_iload_n hx hb dX2_fillSchedule_32 rfl (lv_at hl 2 rfl) ?_
    refine lv_bipush (v := 64) hx hb dX2_fillSchedule_33 (by decide) ?_
    refine lv_icmp_ge (tgt := 105) hx hb dX2_fillSchedule_35 (by decide) (fun c_35 => ?_) (fun c_35 => absurd c_35 (fun h => h (by rw [hxk, show k = 64 by omega]; decide)))
    exact rr_vret C hN dX2_fillSchedule_105 hr hu
  | succ d ih =>
    intro k x u hkd hxk hk16 hr hu H locs ls hN hl
    refine lv_iload_n hx hb dX2_fillSchedule_32 rfl (lv_at hl 2 rfl) ?_
    refine lv_bipush (v := 64) hx hb dX2_fillSchedule_33 (by decide) ?_
    refine lv_icmp_ge (tgt := 105) hx hb dX2_fillSchedule_35 (by decide) (fun c_35 => absurd c_35 (by rw [hxk]; exact (show ¬ nI 64 ≤ nI k from nI_ge (by omega) (by decide)))) (fun c_35 => ?_)
    refine lv_aload_n hx hb dX2_fillSchedule_38 rfl (lv_at hl 0 rfl) ?_
    refine rr_get C hN 32 (Nat.lt_of_lt_of_le (by decide) hNB) rfl rfl kw_X2_fillSchedule_X2 1 (by decide) (List.mem_of_getElem? (i := 1) rfl) (v := .ref (B 34)) rfl dX2_fillSchedule_39 ?_
    refine lv_iload_n hx hb dX2_fillSchedule_42 rfl (lv_at hl 2 rfl) ?_
    refine lv_aload_n hx hb dX2_fillSchedule_43 rfl (lv_at hl 0 rfl) ?_
    refine rr_get C hN 32 (Nat.lt_of_lt_of_le (by decide) hNB) rfl rfl kw_X2_fillSchedule_X2 1 (by decide) (List.mem_of_getElem? (i := 1) rfl) (v := .ref (B 34)) rfl dX2_fillSchedule_44 ?_
    refine lv_iload_n hx hb dX2_fillSchedule_47 rfl (lv_at hl 2 rfl) ?_
    refine lv_bipush (v := 16) hx hb dX2_fillSchedule_48 (by decide) ?_
    refine lv_isub hx hb dX2_fillSchedule_50 ?_
    refine lv_topi (fun vs1 evs1 => ?_)
    refine rr_iald C hN 34 (Nat.lt_of_lt_of_le (by decide) hNB) rfl (by decide) (k - 16) (by omega) (by rw [evs1, hxk]; exact pk_sub (a := k) (b := 16) (by omega)) dX2_fillSchedule_51 ?_
    refine lv_aload_n hx hb dX2_fillSchedule_52 rfl (lv_at hl 0 rfl) ?_
    refine rr_get C hN 32 (Nat.lt_of_lt_of_le (by decide) hNB) rfl rfl kw_X2_fillSchedule_X2 1 (by decide) (List.mem_of_getElem? (i := 1) rfl) (v := .ref (B 34)) rfl dX2_fillSchedule_53 ?_
    refine lv_iload_n hx hb dX2_fillSchedule_56 rfl (lv_at hl 2 rfl) ?_
    refine lv_bipush (v := 15) hx hb dX2_fillSchedule_57 (by decide) ?_
    refine lv_isub hx hb dX2_fillSchedule_59 ?_
    refine lv_topi (fun vs2 evs2 => ?_)
    refine rr_iald C hN 34 (Nat.lt_of_lt_of_le (by decide) hNB) rfl (by decide) (k - 15) (by omega) (by rw [evs2, hxk]; exact pk_sub (a := k) (b := 15) (by omega)) dX2_fillSchedule_60 ?_
    refine lv_bipush (v := 7) hx hb dX2_fillSchedule_61 (by decide) ?_
    refine lv_bipush (v := 18) hx hb dX2_fillSchedule_63 (by decide) ?_
    refine lv_iconst (v := 3) hx hb dX2_fillSchedule_65 (by decide) ?_
    refine rr_callS (As := [.int (u 34 (k - 15)), .int 7, .int 18, .int 3]) C hN (ct_X2_spread l (u 34 (k - 15)) 7 18 3 hNB) gX2_fillSchedule_X2_spread rfl rfl rfl 4 (by decide +kernel) ⟨Nat.le_of_ble_eq_true rfl, Nat.le_of_ble_eq_true rfl⟩ rfl hl.1 rfl (Nat.le_of_ble_eq_true rfl) ⟨Nat.zero_le _, Nat.zero_le _⟩ dX2_fillSchedule_66 (fun H locs hN => ?_)
    refine lv_topi (fun vs3 evs3 => ?_)
    refine lv_iadd hx hb dX2_fillSchedule_69 ?_
    refine lv_topi (fun vs4 evs4 => ?_)
    refine lv_aload_n hx hb dX2_fillSchedule_70 rfl (lv_at hl 0 rfl) ?_
    refine rr_get C hN 32 (Nat.lt_of_lt_of_le (by decide) hNB) rfl rfl kw_X2_fillSchedule_X2 1 (by decide) (List.mem_of_getElem? (i := 1) rfl) (v := .ref (B 34)) rfl dX2_fillSchedule_71 ?_
    refine lv_iload_n hx hb dX2_fillSchedule_74 rfl (lv_at hl 2 rfl) ?_
    refine lv_bipush (v := 7) hx hb dX2_fillSchedule_75 (by decide) ?_
    refine lv_isub hx hb dX2_fillSchedule_77 ?_
    refine lv_topi (fun vs5 evs5 => ?_)
    refine rr_iald C hN 34 (Nat.lt_of_lt_of_le (by decide) hNB) rfl (by decide) (k - 7) (by omega) (by rw [evs5, hxk]; exact pk_sub (a := k) (b := 7) (by omega)) dX2_fillSchedule_78 ?_
    refine lv_iadd hx hb dX2_fillSchedule_79 ?_
    refine lv_topi (fun vs6 evs6 => ?_)
    refine lv_aload_n hx hb dX2_fillSchedule_80 rfl (lv_at hl 0 rfl) ?_
    refine rr_get C hN 32 (Nat.lt_of_lt_of_le (by decide) hNB) rfl rfl kw_X2_fillSchedule_X2 1 (by decide) (List.mem_of_getElem? (i := 1) rfl) (v := .ref (B 34)) rfl dX2_fillSchedule_81 ?_
    refine lv_iload_n hx hb dX2_fillSchedule_84 rfl (lv_at hl 2 rfl) ?_
    refine lv_iconst (v := 2) hx hb dX2_fillSchedule_85 (by decide) ?_
    refine lv_isub hx hb dX2_fillSchedule_86 ?_
    refine lv_topi (fun vs7 evs7 => ?_)
    refine rr_iald C hN 34 (Nat.lt_of_lt_of_le (by decide) hNB) rfl (by decide) (k - 2) (by omega) (by rw [evs7, hxk]; exact pk_sub (a := k) (b := 2) (by omega)) dX2_fillSchedule_87 ?_
    refine lv_bipush (v := 17) hx hb dX2_fillSchedule_88 (by decide) ?_
    refine lv_bipush (v := 19) hx hb dX2_fillSchedule_90 (by decide) ?_
    refine lv_bipush (v := 10) hx hb dX2_fillSchedule_92 (by decide) ?_
    refine rr_callS (As := [.int (u 34 (k - 2)), .int 17, .int 19, .int 10]) C hN (ct_X2_spread l (u 34 (k - 2)) 17 19 10 hNB) gX2_fillSchedule_X2_spread rfl rfl rfl 4 (by decide +kernel) ⟨Nat.le_of_ble_eq_true rfl, Nat.le_of_ble_eq_true rfl⟩ rfl hl.1 rfl (Nat.le_of_ble_eq_true rfl) ⟨Nat.zero_le _, Nat.zero_le _⟩ dX2_fillSchedule_94 (fun H locs hN => ?_)
    refine lv_topi (fun vs8 evs8 => ?_)
    refine lv_iadd hx hb dX2_fillSchedule_97 ?_
    refine lv_topi (fun vs9 evs9 => ?_)
    refine rr_iast C hN 34 (Nat.lt_of_lt_of_le (by decide) hNB) (fun _ => rfl) (by decide) k (by omega) hxk dX2_fillSchedule_98 (fun us10 eus10 H locs hN => ?_)
    obtain ⟨vs11, evs11⟩ : ∃ y : Int32, y = x + 1 := ⟨_, rfl⟩
    refine lv_iinc (v := vs11) (lv' := [(2, .int vs11), (0, .ref (B 32)), (1, .int fr)]) hx hb dX2_fillSchedule_99 hl (k := 2) rfl (by rw [evs11]; rfl) (by decide) rfl (fun ls hl => ?_)
    refine lv_goto (tgt := 32) hx hb dX2_fillSchedule_102 (by decide) ?_
    exact ih (k + 1) vs11 us10 (by omega) (by rw [evs11, hxk]; exact nI_1 k) (by omega) hr (hu.trans (by subst_vars; simp only [cl_f2])) H locs ls hN (lv_sub hl [1, 2, 0] rfl)
set_option maxHeartbeats 4000000 in
set_option maxRecDepth 100000 in
theorem lp_X2_fill1 {p : Program} {l : Launch} {e : Env} {s : State} {m : MethodId} {args : Array Value} {below : List Frame} {meth : Method} {c : Code} {D : va_G} {ca : Nat → ClassId} {B : Nat → Nat} {N n : Nat} {X : va_W} (C : ww_C D ca yX2_fillSchedule.cls cX2_fillSchedule 3 wsX2_fillSchedule none (ww_A B N X s.heap.size) p s m args meth c) (hNB : 36 ≤ N) (fr : Int32) {f0 : Nat} (hf0 : f0 + 64 ≤ 320) (hfr : fr = nI f0)  {r : Option Value} {u' : ww_U} : ∀ (d k : Nat) (x : Int32) (u : ww_U), k + d = 16 → (x = nI k) → r = none → u' = cl_f2 48 16 (cl_f1 d k f0 u) → ∀ (H : Heap) (locs : List Loc) (ls : Array Slot), ww_N D ca B N n u X (ww_A B N X s.heap.size) s.heap H locs → lv_has ls 3 [(0, .ref (B 32)), (1, .int fr), (2, .int x)] → W p l e (headSpec wsX2_fillSchedule ({ frames := 2, cells := 0, slots := 0, locals := 44 } : Room)).room s m args below meth c H locs 0 0 (MQ below (ww_Q D ca B N n X s.heap.size r u') args s 0 0 (ww_A B N X s.heap.size)) (F0 m 2 ls []) := by
  have hx := C.1.1
  have hb := C.1.2.1
  have hNN : 29 ≤ N := by omega
  intro d
  induction d with
  | zero =>
    intro k x u hkd hxk hr hu H locs ls hN hl
    refine lv_iload_n hx hb dX2_fillSchedule_2 rfl (lv_at hl 2 rfl) ?_
    refine lv_bipush (v := 16) hx hb dX2_fillSchedule_3 (by decide) ?_
    refine lv_icmp_ge (tgt := 29) hx hb dX2_fillSchedule_5 (by decide) (fun c_5 => ?_) (fun c_5 => absurd c_5 (fun h => h (by rw [hxk, show k = 16 by omega]; decide)))
    refine lv_bipush (v := 16) hx hb dX2_fillSchedule_29 (by decide) ?_
    refine lv_istore_n (lv' := [(2, .int 16), (0, .ref (B 32)), (1, .int fr)]) hx hb dX2_fillSchedule_31 rfl hl (by decide) rfl (fun ls hl => ?_)
    exact lp_X2_fill2 C hNB fr 48 16 16 u (by omega) rfl (by omega) hr (hu.trans (by simp only [cl_f1])) H locs ls hN (lv_sub hl [1, 2, 0] rfl)
  | succ d ih =>
    intro k x u hkd hxk hr hu H locs ls hN hl
    refine lv_iload_n hx hb dX2_fillSchedule_2 rfl (lv_at hl 2 rfl) ?_
    refine lv_bipush (v := 16) hx hb dX2_fillSchedule_3 (by decide) ?_
    refine lv_icmp_ge (tgt := 29) hx hb dX2_fillSchedule_5 (by decide) (fun c_5 => absurd c_5 (by rw [hxk]; exact (show ¬ nI 16 ≤ nI k from nI_ge (by omega) (by decide)))) (fun c_5 => ?_)
    refine lv_aload_n hx hb dX2_fillSchedule_8 rfl (lv_at hl 0 rfl) ?_
    refine rr_get C hN 32 (Nat.lt_of_lt_of_le (by decide) hNB) rfl rfl kw_X2_fillSchedule_X2 1 (by decide) (List.mem_of_getElem? (i := 1) rfl) (v := .ref (B 34)) rfl dX2_fillSchedule_9 ?_
    refine lv_iload_n hx hb dX2_fillSchedule_12 rfl (lv_at hl 2 rfl) ?_
    refine lv_aload_n hx hb dX2_fillSchedule_13 rfl (lv_at hl 0 rfl) ?_
    refine lv_iload_n hx hb dX2_fillSchedule_14 rfl (lv_at hl 1 rfl) ?_
    refine lv_iconst (v := 4) hx hb dX2_fillSchedule_15 (by decide) ?_
    refine lv_iload_n hx hb dX2_fillSchedule_16 rfl (lv_at hl 2 rfl) ?_
    refine lv_imul hx hb dX2_fillSchedule_17 ?_
    refine lv_topi (fun vs1 evs1 => ?_)
    refine lv_iadd hx hb dX2_fillSchedule_18 ?_
    refine lv_topi (fun vs2 evs2 => ?_)
    refine rr_callV (As := [.int vs2]) C hN 32 (Nat.lt_of_lt_of_le (by decide) hNB) rfl rfl rfl (ct_X2_wordAt l (j := f0 + 4 * k) (by omega) (by rw [evs2, evs1, hfr, hxk]; exact (congrArg (fun z : Int32 => nI f0 + z) (pk_mul 4 k)).trans (nI_add f0 (4 * k))) hNB) gX2_fillSchedule_X2_wordAt rfl rfl rfl 1 (by decide +kernel) ⟨Nat.le_of_ble_eq_true rfl, Nat.le_of_ble_eq_true rfl⟩ rfl hl.1 rfl (Nat.le_of_ble_eq_true rfl) ⟨Nat.zero_le _, Nat.zero_le _⟩ dX2_fillSchedule_19 (fun H locs hN => ?_)
    refine lv_topi (fun vs3 evs3 => ?_)
    refine rr_iast C hN 34 (Nat.lt_of_lt_of_le (by decide) hNB) (fun _ => rfl) (by decide) k (by omega) hxk dX2_fillSchedule_22 (fun us4 eus4 H locs hN => ?_)
    obtain ⟨vs5, evs5⟩ : ∃ y : Int32, y = x + 1 := ⟨_, rfl⟩
    refine lv_iinc (v := vs5) (lv' := [(2, .int vs5), (0, .ref (B 32)), (1, .int fr)]) hx hb dX2_fillSchedule_23 hl (k := 2) rfl (by rw [evs5]; rfl) (by decide) rfl (fun ls hl => ?_)
    refine lv_goto (tgt := 2) hx hb dX2_fillSchedule_26 (by decide) ?_
    exact ih (k + 1) vs5 us4 (by omega) (by rw [evs5, hxk]; exact nI_1 k) hr (hu.trans (by subst_vars; simp only [cl_f1])) H locs ls hN (lv_sub hl [1, 2, 0] rfl)
set_option maxHeartbeats 4000000 in
set_option maxRecDepth 100000 in
theorem ct_X2_fillSchedule (l : Launch) {D : va_G} {ca : Nat → ClassId} {B : Nat → Nat} {N n : Nat} {X : va_W} {u : ww_U} {x : Int32} {f0 : Nat} (hf0 : f0 + 64 ≤ 320) (hfr : x = nI f0) (hNB : 36 ≤ N)  : ww_M l yX2_fillSchedule wsX2_fillSchedule ({ frames := 2, cells := 0, slots := 0, locals := 44 } : Room) D ca B N n X u [.ref (B 32), .int x] none (cl_fill f0 u) := by
  refine ww_met (cc := cX2_fillSchedule) (maxL := 3) (ret := none) (by decide) rfl (Nat.le_of_ble_eq_true rfl) ?_
  intro p e s m args below meth c C hN ls hl
  have hl : lv_has ls 3 [(0, .ref (B 32)), (1, .int x)] := hl
  have hx := C.1.1
  have hb := C.1.2.1
  have hNN : 29 ≤ N := by omega
  refine lv_iconst (v := 0) hx hb dX2_fillSchedule_0 (by decide) ?_
  refine lv_istore_n (lv' := [(2, .int 0), (0, .ref (B 32)), (1, .int x)]) hx hb dX2_fillSchedule_1 rfl hl (by decide) rfl (fun ls hl => ?_)
  exact lp_X2_fill1 C hNB x hf0 hfr 16 0 0 u (by omega) rfl rfl rfl _ _ _ hN (lv_sub hl [1, 2, 0] rfl)
set_option maxRecDepth 20000 in
theorem kw_X2_mix_X2 : ww_K wsX2_mix RX2 TX2 3 tyX2 := ⟨by decide +kernel, tyX2_ok, nmX2⟩
set_option maxHeartbeats 4000000 in
set_option maxRecDepth 100000 in
theorem lp_X2_mix {p : Program} {l : Launch} {e : Env} {s : State} {m : MethodId} {args : Array Value} {below : List Frame} {meth : Method} {c : Code} {D : va_G} {ca : Nat → ClassId} {B : Nat → Nat} {N n : Nat} {X : va_W} (C : ww_C D ca yX2_mix.cls cX2_mix 12 wsX2_mix none (ww_A B N X s.heap.size) p s m args meth c) (hNB : 36 ≤ N)   {r : Option Value} {u' : ww_U} : ∀ (d k : Nat) (a1 : Int32) (a2 : Int32) (a3 : Int32) (a4 : Int32) (a5 : Int32) (a6 : Int32) (a7 : Int32) (a8 : Int32) (x : Int32) (u : ww_U), k + d = 64 → (x = nI k) → r = none → u' = cl_mix d k u a1 a2 a3 a4 a5 a6 a7 a8 → ∀ (H : Heap) (locs : List Loc) (ls : Array Slot), ww_N D ca B N n u X (ww_A B N X s.heap.size) s.heap H locs → lv_has ls 12 [(0, .ref (B 32)), (1, .int a1), (2, .int a2), (3, .int a3), (4, .int a4), (5, .int a5), (6, .int a6), (7, .int a7), (8, .int a8), (9, .int x)] → W p l e (headSpec wsX2_mix ({ frames := 2, cells := 0, slots := 0, locals := 44 } : Room)).room s m args below meth c H locs 0 0 (MQ below (ww_Q D ca B N n X s.heap.size r u') args s 0 0 (ww_A B N X s.heap.size)) (F0 m 66 ls []) := by
  have hx := C.1.1
  have hb := C.1.2.1
  have hNN : 29 ≤ N := by omega
  intro d
  induction d with
  | zero =>
    intro k a1 a2 a3 a4 a5 a6 a7 a8 x u hkd hxk hr hu H locs ls hN hl
    obtain ⟨t1, t2, ⟨hZ1, hT1⟩, hZ2, hT2⟩ := C.2.2.2.2.2
    refine lv_iload hx hb dX2_mix_66 (lv_at hl 9 rfl) ?_
    refine lv_bipush (v := 64) hx hb dX2_mix_68 (by decide) ?_
    refine lv_icmp_ge (tgt := 179) hx hb dX2_mix_70 (by decide) (fun c_70 => ?_) (fun c_70 => absurd c_70 (fun h => h (by rw [hxk, show k = 64 by omega]; decide)))
    refine lv_aload_n hx hb dX2_mix_179 rfl (lv_at hl 0 rfl) ?_
    refine rr_get C hN 32 (Nat.lt_of_lt_of_le (by decide) hNB) rfl rfl kw_X2_mix_X2 2 (by decide) (List.mem_of_getElem? (i := 1) rfl) (v := .ref (B 35)) rfl dX2_mix_180 ?_
    refine lv_iconst (v := 0) hx hb dX2_mix_183 (by decide) ?_
    refine lv_dup2_11 hx hb dX2_mix_184 rfl rfl ?_
    refine rr_iald C hN 35 (Nat.lt_of_lt_of_le (by decide) hNB) rfl (by decide) 0 (by decide) rfl dX2_mix_185 ?_
    refine lv_iload_n hx hb dX2_mix_186 rfl (lv_at hl 1 rfl) ?_
    refine lv_iadd hx hb dX2_mix_187 ?_
    refine lv_topi (fun vz1 evz1 => ?_)
    refine rr_iast C hN 35 (Nat.lt_of_lt_of_le (by decide) hNB) (fun _ => rfl) (by decide) 0 (by decide) rfl dX2_mix_188 (fun uz2 euz2 H locs hN => ?_)
    refine lv_aload_n hx hb dX2_mix_189 rfl (lv_at hl 0 rfl) ?_
    refine rr_get C hN 32 (Nat.lt_of_lt_of_le (by decide) hNB) rfl rfl kw_X2_mix_X2 2 (by decide) (List.mem_of_getElem? (i := 1) rfl) (v := .ref (B 35)) rfl dX2_mix_190 ?_
    refine lv_iconst (v := 1) hx hb dX2_mix_193 (by decide) ?_
    refine lv_dup2_11 hx hb dX2_mix_194 rfl rfl ?_
    refine rr_iald C hN 35 (Nat.lt_of_lt_of_le (by decide) hNB) rfl (by decide) 1 (by decide) rfl dX2_mix_195 ?_
    refine lv_iload_n hx hb dX2_mix_196 rfl (lv_at hl 2 rfl) ?_
    refine lv_iadd hx hb dX2_mix_197 ?_
    refine lv_topi (fun vz3 evz3 => ?_)
    refine rr_iast C hN 35 (Nat.lt_of_lt_of_le (by decide) hNB) (fun _ => rfl) (by decide) 1 (by decide) rfl dX2_mix_198 (fun uz4 euz4 H locs hN => ?_)
    refine lv_aload_n hx hb dX2_mix_199 rfl (lv_at hl 0 rfl) ?_
    refine rr_get C hN 32 (Nat.lt_of_lt_of_le (by decide) hNB) rfl rfl kw_X2_mix_X2 2 (by decide) (List.mem_of_getElem? (i := 1) rfl) (v := .ref (B 35)) rfl dX2_mix_200 ?_
    refine lv_iconst (v := 2) hx hb dX2_mix_203 (by decide) ?_
    refine lv_dup2_11 hx hb dX2_mix_204 rfl rfl ?_
    refine rr_iald C hN 35 (Nat.lt_of_lt_of_le (by decide) hNB) rfl (by decide) 2 (by decide) rfl dX2_mix_205 ?_
    refine lv_iload_n hx hb dX2_mix_206 rfl (lv_at hl 3 rfl) ?_
    refine lv_iadd hx hb dX2_mix_207 ?_
    refine lv_topi (fun vz5 evz5 => ?_)
    refine rr_iast C hN 35 (Nat.lt_of_lt_of_le (by decide) hNB) (fun _ => rfl) (by decide) 2 (by decide) rfl dX2_mix_208 (fun uz6 euz6 H locs hN => ?_)
    refine lv_aload_n hx hb dX2_mix_209 rfl (lv_at hl 0 rfl) ?_
    refine rr_get C hN 32 (Nat.lt_of_lt_of_le (by decide) hNB) rfl rfl kw_X2_mix_X2 2 (by decide) (List.mem_of_getElem? (i := 1) rfl) (v := .ref (B 35)) rfl dX2_mix_210 ?_
    refine lv_iconst (v := 3) hx hb dX2_mix_213 (by decide) ?_
    refine lv_dup2_11 hx hb dX2_mix_214 rfl rfl ?_
    refine rr_iald C hN 35 (Nat.lt_of_lt_of_le (by decide) hNB) rfl (by decide) 3 (by decide) rfl dX2_mix_215 ?_
    refine lv_iload hx hb dX2_mix_216 (lv_at hl 4 rfl) ?_
    refine lv_iadd hx hb dX2_mix_218 ?_
    refine lv_topi (fun vz7 evz7 => ?_)
    refine rr_iast C hN 35 (Nat.lt_of_lt_of_le (by decide) hNB) (fun _ => rfl) (by decide) 3 (by decide) rfl dX2_mix_219 (fun uz8 euz8 H locs hN => ?_)
    refine lv_aload_n hx hb dX2_mix_220 rfl (lv_at hl 0 rfl) ?_
    refine rr_get C hN 32 (Nat.lt_of_lt_of_le (by decide) hNB) rfl rfl kw_X2_mix_X2 2 (by decide) (List.mem_of_getElem? (i := 1) rfl) (v := .ref (B 35)) rfl dX2_mix_221 ?_
    refine lv_iconst (v := 4) hx hb dX2_mix_224 (by decide) ?_
    refine lv_dup2_11 hx hb dX2_mix_225 rfl rfl ?_
    refine rr_iald C hN 35 (Nat.lt_of_lt_of_le (by decide) hNB) rfl (by decide) 4 (by decide) rfl dX2_mix_226 ?_
    refine lv_iload hx hb dX2_mix_227 (lv_at hl 5 rfl) ?_
    refine lv_iadd hx hb dX2_mix_229 ?_
    refine lv_topi (fun vz9 evz9 => ?_)
    refine rr_iast C hN 35 (Nat.lt_of_lt_of_le (by decide) hNB) (fun _ => rfl) (by decide) 4 (by decide) rfl dX2_mix_230 (fun uz10 euz10 H locs hN => ?_)
    refine lv_aload_n hx hb dX2_mix_231 rfl (lv_at hl 0 rfl) ?_
    refine rr_get C hN 32 (Nat.lt_of_lt_of_le (by decide) hNB) rfl rfl kw_X2_mix_X2 2 (by decide) (List.mem_of_getElem? (i := 1) rfl) (v := .ref (B 35)) rfl dX2_mix_232 ?_
    refine lv_iconst (v := 5) hx hb dX2_mix_235 (by decide) ?_
    refine lv_dup2_11 hx hb dX2_mix_236 rfl rfl ?_
    refine rr_iald C hN 35 (Nat.lt_of_lt_of_le (by decide) hNB) rfl (by decide) 5 (by decide) rfl dX2_mix_237 ?_
    refine lv_iload hx hb dX2_mix_238 (lv_at hl 6 rfl) ?_
    refine lv_iadd hx hb dX2_mix_240 ?_
    refine lv_topi (fun vz11 evz11 => ?_)
    refine rr_iast C hN 35 (Nat.lt_of_lt_of_le (by decide) hNB) (fun _ => rfl) (by decide) 5 (by decide) rfl dX2_mix_241 (fun uz12 euz12 H locs hN => ?_)
    refine lv_aload_n hx hb dX2_mix_242 rfl (lv_at hl 0 rfl) ?_
    refine rr_get C hN 32 (Nat.lt_of_lt_of_le (by decide) hNB) rfl rfl kw_X2_mix_X2 2 (by decide) (List.mem_of_getElem? (i := 1) rfl) (v := .ref (B 35)) rfl dX2_mix_243 ?_
    refine lv_bipush (v := 6) hx hb dX2_mix_246 (by decide) ?_
    refine lv_dup2_11 hx hb dX2_mix_248 rfl rfl ?_
    refine rr_iald C hN 35 (Nat.lt_of_lt_of_le (by decide) hNB) rfl (by decide) 6 (by decide) rfl dX2_mix_249 ?_
    refine lv_iload hx hb dX2_mix_250 (lv_at hl 7 rfl) ?_
    refine lv_iadd hx hb dX2_mix_252 ?_
    refine lv_topi (fun vz13 evz13 => ?_)
    refine rr_iast C hN 35 (Nat.lt_of_lt_of_le (by decide) hNB) (fun _ => rfl) (by decide) 6 (by decide) rfl dX2_mix_253 (fun uz14 euz14 H locs hN => ?_)
    refine lv_aload_n hx hb dX2_mix_254 rfl (lv_at hl 0 rfl) ?_
    refine rr_get C hN 32 (Nat.lt_of_lt_of_le (by decide) hNB) rfl rfl kw_X2_mix_X2 2 (by decide) (List.mem_of_getElem? (i := 1) rfl) (v := .ref (B 35)) rfl dX2_mix_255 ?_
    refine lv_bipush (v := 7) hx hb dX2_mix_258 (by decide) ?_
    refine lv_dup2_11 hx hb dX2_mix_260 rfl rfl ?_
    refine rr_iald C hN 35 (Nat.lt_of_lt_of_le (by decide) hNB) rfl (by decide) 7 (by decide) rfl dX2_mix_261 ?_
    refine lv_iload hx hb dX2_mix_262 (lv_at hl 8 rfl) ?_
    refine lv_iadd hx hb dX2_mix_264 ?_
    refine lv_topi (fun vz15 evz15 => ?_)
    refine rr_iast C hN 35 (Nat.lt_of_lt_of_le (by decide) hNB) (fun _ => rfl) (by decide) 7 (by decide) rfl dX2_mix_265 (fun uz16 euz16 H locs hN => ?_)
    have huz2 : uz2 = cl_add u 0 a1 := by rw [euz2, evz1]; rfl
    have huz4 : uz4 = cl_add uz2 1 a2 := by rw [euz4, evz3]; rfl
    have huz6 : uz6 = cl_add uz4 2 a3 := by rw [euz6, evz5]; rfl
    have huz8 : uz8 = cl_add uz6 3 a4 := by rw [euz8, evz7]; rfl
    have huz10 : uz10 = cl_add uz8 4 a5 := by rw [euz10, evz9]; rfl
    have huz12 : uz12 = cl_add uz10 5 a6 := by rw [euz12, evz11]; rfl
    have huz14 : uz14 = cl_add uz12 6 a7 := by rw [euz14, evz13]; rfl
    have huz16 : uz16 = cl_add uz14 7 a8 := by rw [euz16, evz15]; rfl
    exact rr_vret C hN dX2_mix_266 hr (hu.trans (by rw [huz16, huz14, huz12, huz10, huz8, huz6, huz4, huz2]; rfl))
  | succ d ih =>
    intro k a1 a2 a3 a4 a5 a6 a7 a8 x u hkd hxk hr hu H locs ls hN hl
    obtain ⟨t1, t2, ⟨hZ1, hT1⟩, hZ2, hT2⟩ := C.2.2.2.2.2
    refine lv_iload hx hb dX2_mix_66 (lv_at hl 9 rfl) ?_
    refine lv_bipush (v := 64) hx hb dX2_mix_68 (by decide) ?_
    refine lv_icmp_ge (tgt := 179) hx hb dX2_mix_70 (by decide) (fun c_70 => absurd c_70 (by rw [hxk]; exact (show ¬ nI 64 ≤ nI k from nI_ge (by omega) (by decide)))) (fun c_70 => ?_)
    refine lv_iload hx hb dX2_mix_73 (lv_at hl 8 rfl) ?_
    refine lv_iload hx hb dX2_mix_75 (lv_at hl 5 rfl) ?_
    refine lv_bipush (v := 6) hx hb dX2_mix_77 (by decide) ?_
    refine lv_bipush (v := 11) hx hb dX2_mix_79 (by decide) ?_
    refine lv_bipush (v := 25) hx hb dX2_mix_81 (by decide) ?_
    refine rr_callS (As := [.int a5, .int 6, .int 11, .int 25]) C hN (ct_X2_turns l a5 6 11 25 hNB) gX2_mix_X2_turns rfl rfl rfl 4 (by decide +kernel) ⟨Nat.le_of_ble_eq_true rfl, Nat.le_of_ble_eq_true rfl⟩ rfl hl.1 rfl (Nat.le_of_ble_eq_true rfl) ⟨Nat.zero_le _, Nat.zero_le _⟩ dX2_mix_83 (fun H locs hN => ?_)
    refine lv_topi (fun vs1 evs1 => ?_)
    refine lv_iadd hx hb dX2_mix_86 ?_
    refine lv_topi (fun vs2 evs2 => ?_)
    refine lv_iload hx hb dX2_mix_87 (lv_at hl 5 rfl) ?_
    refine lv_iload hx hb dX2_mix_89 (lv_at hl 6 rfl) ?_
    refine lv_iand hx hb dX2_mix_91 ?_
    refine lv_topi (fun vs3 evs3 => ?_)
    refine lv_iload hx hb dX2_mix_92 (lv_at hl 5 rfl) ?_
    refine lv_iconst (v := (-1)) hx hb dX2_mix_94 (by decide) ?_
    refine lv_ixor hx hb dX2_mix_95 ?_
    refine lv_topi (fun vs4 evs4 => ?_)
    refine lv_iload hx hb dX2_mix_96 (lv_at hl 7 rfl) ?_
    refine lv_iand hx hb dX2_mix_98 ?_
    refine lv_topi (fun vs5 evs5 => ?_)
    refine lv_ixor hx hb dX2_mix_99 ?_
    refine lv_topi (fun vs6 evs6 => ?_)
    refine lv_iadd hx hb dX2_mix_100 ?_
    refine lv_topi (fun vs7 evs7 => ?_)
    refine rr_gets C hN hZ2 (List.mem_of_getElem? (i := 2) rfl) dX2_mix_101 ?_
    refine lv_iload hx hb dX2_mix_104 (lv_at hl 9 rfl) ?_
    refine rr_tald C hN hT2 (by decide) k (by omega) hxk dX2_mix_106 ?_
    refine lv_iadd hx hb dX2_mix_107 ?_
    refine lv_topi (fun vs8 evs8 => ?_)
    refine lv_aload_n hx hb dX2_mix_108 rfl (lv_at hl 0 rfl) ?_
    refine rr_get C hN 32 (Nat.lt_of_lt_of_le (by decide) hNB) rfl rfl kw_X2_mix_X2 1 (by decide) (List.mem_of_getElem? (i := 3) rfl) (v := .ref (B 34)) rfl dX2_mix_109 ?_
    refine lv_iload hx hb dX2_mix_112 (lv_at hl 9 rfl) ?_
    refine rr_iald C hN 34 (Nat.lt_of_lt_of_le (by decide) hNB) rfl (by decide) k (by omega) hxk dX2_mix_114 ?_
    refine lv_iadd hx hb dX2_mix_115 ?_
    refine lv_topi (fun vs9 evs9 => ?_)
    refine lv_istore (lv' := [(10, .int vs9), (0, .ref (B 32)), (1, .int a1), (2, .int a2), (3, .int a3), (4, .int a4), (5, .int a5), (6, .int a6), (7, .int a7), (8, .int a8), (9, .int x)]) hx hb dX2_mix_116 hl (by decide) rfl (fun ls hl => ?_)
    refine lv_iload_n hx hb dX2_mix_118 rfl (lv_at hl 2 rfl) ?_
    refine lv_iconst (v := 2) hx hb dX2_mix_119 (by decide) ?_
    refine lv_bipush (v := 13) hx hb dX2_mix_120 (by decide) ?_
    refine lv_bipush (v := 22) hx hb dX2_mix_122 (by decide) ?_
    refine rr_callS (As := [.int a1, .int 2, .int 13, .int 22]) C hN (ct_X2_turns l a1 2 13 22 hNB) gX2_mix_X2_turns rfl rfl rfl 4 (by decide +kernel) ⟨Nat.le_of_ble_eq_true rfl, Nat.le_of_ble_eq_true rfl⟩ rfl hl.1 rfl (Nat.le_of_ble_eq_true rfl) ⟨Nat.zero_le _, Nat.zero_le _⟩ dX2_mix_124 (fun H locs hN => ?_)
    refine lv_topi (fun vs10 evs10 => ?_)
    refine lv_iload_n hx hb dX2_mix_127 rfl (lv_at hl 2 rfl) ?_
    refine lv_iload_n hx hb dX2_mix_128 rfl (lv_at hl 3 rfl) ?_
    refine lv_iand hx hb dX2_mix_129 ?_
    refine lv_topi (fun vs11 evs11 => ?_)
    refine lv_iload_n hx hb dX2_mix_130 rfl (lv_at hl 2 rfl) ?_
    refine lv_iload_n hx hb dX2_mix_131 rfl (lv_at hl 4 rfl) ?_
    refine lv_iand hx hb dX2_mix_132 ?_
    refine lv_topi (fun vs12 evs12 => ?_)
    refine lv_ixor hx hb dX2_mix_133 ?_
    refine lv_topi (fun vs13 evs13 => ?_)
    refine lv_iload_n hx hb dX2_mix_134 rfl (lv_at hl 3 rfl) ?_
    refine lv_iload_n hx hb dX2_mix_135 rfl (lv_at hl 4 rfl) ?_
    refine lv_iand hx hb dX2_mix_136 ?_
    refine lv_topi (fun vs14 evs14 => ?_)
    refine lv_ixor hx hb dX2_mix_137 ?_
    refine lv_topi (fun vs15 evs15 => ?_)
    refine lv_iadd hx hb dX2_mix_138 ?_
    refine lv_topi (fun vs16 evs16 => ?_)
    refine lv_istore (lv' := [(11, .int vs16), (10, .int vs9), (0, .ref (B 32)), (1, .int a1), (2, .int a2), (3, .int a3), (4, .int a4), (5, .int a5), (6, .int a6), (7, .int a7), (8, .int a8), (9, .int x)]) hx hb dX2_mix_139 hl (by decide) rfl (fun ls hl => ?_)
    refine lv_iload hx hb dX2_mix_141 (lv_at hl 9 rfl) ?_
    refine lv_istore (lv' := [(8, .int a7), (11, .int vs16), (10, .int vs9), (0, .ref (B 32)), (1, .int a1), (2, .int a2), (3, .int a3), (4, .int a4), (5, .int a5), (6, .int a6), (7, .int a7), (9, .int x)]) hx hb dX2_mix_143 hl (by decide) rfl (fun ls hl => ?_)
    refine lv_iload hx hb dX2_mix_145 (lv_at hl 9 rfl) ?_
    refine lv_istore (lv' := [(7, .int a6), (8, .int a7), (11, .int vs16), (10, .int vs9), (0, .ref (B 32)), (1, .int a1), (2, .int a2), (3, .int a3), (4, .int a4), (5, .int a5), (6, .int a6), (9, .int x)]) hx hb dX2_mix_147 hl (by decide) rfl (fun ls hl => ?_)
    refine lv_iload hx hb dX2_mix_149 (lv_at hl 9 rfl) ?_
    refine lv_istore (lv' := [(6, .int a5), (7, .int a6), (8, .int a7), (11, .int vs16), (10, .int vs9), (0, .ref (B 32)), (1, .int a1), (2, .int a2), (3, .int a3), (4, .int a4), (5, .int a5), (9, .int x)]) hx hb dX2_mix_151 hl (by decide) rfl (fun ls hl => ?_)
    refine lv_iload hx hb dX2_mix_153 (lv_at hl 9 rfl) ?_
    refine lv_iload hx hb dX2_mix_155 (lv_at hl 4 rfl) ?_
    refine lv_iadd hx hb dX2_mix_157 ?_
    refine lv_topi (fun vs17 evs17 => ?_)
    refine lv_istore (lv' := [(5, .int vs17), (6, .int a5), (7, .int a6), (8, .int a7), (11, .int vs16), (10, .int vs9), (0, .ref (B 32)), (1, .int a1), (2, .int a2), (3, .int a3), (4, .int a4), (9, .int x)]) hx hb dX2_mix_158 hl (by decide) rfl (fun ls hl => ?_)
    refine lv_iload_n hx hb dX2_mix_160 rfl (lv_at hl 9 rfl) ?_
    refine lv_istore (lv' := [(4, .int a3), (5, .int vs17), (6, .int a5), (7, .int a6), (8, .int a7), (11, .int vs16), (10, .int vs9), (0, .ref (B 32)), (1, .int a1), (2, .int a2), (3, .int a3), (9, .int x)]) hx hb dX2_mix_161 hl (by decide) rfl (fun ls hl => ?_)
    refine lv_iload_n hx hb dX2_mix_163 rfl (lv_at hl 9 rfl) ?_
    refine lv_istore_n (lv' := [(3, .int a2), (4, .int a3), (5, .int vs17), (6, .int a5), (7, .int a6), (8, .int a7), (11, .int vs16), (10, .int vs9), (0, .ref (B 32)), (1, .int a1), (2, .int a2), (9, .int x)]) hx hb dX2_mix_164 rfl hl (by decide) rfl (fun ls hl => ?_)
    refine lv_iload_n hx hb dX2_mix_165 rfl (lv_at hl 9 rfl) ?_
    refine lv_istore_n (lv' := [(2, .int a1), (3, .int a2), (4, .int a3), (5, .int vs17), (6, .int a5), (7, .int a6), (8, .int a7), (11, .int vs16), (10, .int vs9), (0, .ref (B 32)), (1, .int a1), (9, .int x)]) hx hb dX2_mix_166 rfl hl (by decide) rfl (fun ls hl => ?_)
    refine lv_iload hx hb dX2_mix_167 (lv_at hl 8 rfl) ?_
    refine lv_iload hx hb dX2_mix_169 (lv_at hl 7 rfl) ?_
    refine lv_iadd hx hb dX2_mix_171 ?_
    refine lv_topi (fun vs18 evs18 => ?_)
    refine lv_istore_n (lv' := [(1, .int vs18), (2, .int a1), (3, .int a2), (4, .int a3), (5, .int vs17), (6, .int a5), (7, .int a6), (8, .int a7), (11, .int vs16), (10, .int vs9), (0, .ref (B 32)), (9, .int x)]) hx hb dX2_mix_172 rfl hl (by decide) rfl (fun ls hl => ?_)
    obtain ⟨vs19, evs19⟩ : ∃ y : Int32, y = x + 1 := ⟨_, rfl⟩
    refine lv_iinc (v := vs19) (lv' := [(9, .int vs19), (1, .int vs18), (2, .int a1), (3, .int a2), (4, .int a3), (5, .int vs17), (6, .int a5), (7, .int a6), (8, .int a7), (11, .int vs16), (10, .int vs9), (0, .ref (B 32))]) hx hb dX2_mix_173 hl (k := 11) rfl (by rw [evs19]; rfl) (by decide) rfl (fun ls hl => ?_)
    refine lv_goto (tgt := 66) hx hb dX2_mix_176 (by decide) ?_
    exact ih (k + 1) vs18 a1 a2 a3 vs17 a5 a6 a7 vs19 u (by omega) (by rw [evs19, hxk]; exact nI_1 k) hr (hu.trans (by subst_vars; simp only [cl_mix, sh_x, sh_y])) H locs ls hN (lv_sub hl [11, 1, 2, 3, 4, 5, 6, 7, 8, 0] rfl)
set_option maxHeartbeats 4000000 in
set_option maxRecDepth 100000 in
theorem ct_X2_mix (l : Launch) {D : va_G} {ca : Nat → ClassId} {B : Nat → Nat} {N n : Nat} {X : va_W} {u : ww_U}  (hNB : 36 ≤ N)  : ww_M l yX2_mix wsX2_mix ({ frames := 2, cells := 0, slots := 0, locals := 44 } : Room) D ca B N n X u [.ref (B 32)] none (cl_mx u) := by
  refine ww_met (cc := cX2_mix) (maxL := 12) (ret := none) (by decide) rfl (Nat.le_of_ble_eq_true rfl) ?_
  intro p e s m args below meth c C hN ls hl
  have hl : lv_has ls 12 [(0, .ref (B 32))] := hl
  have hx := C.1.1
  have hb := C.1.2.1
  have hNN : 29 ≤ N := by omega
  refine lv_aload_n hx hb dX2_mix_0 rfl (lv_at hl 0 rfl) ?_
  refine rr_get C hN 32 (Nat.lt_of_lt_of_le (by decide) hNB) rfl rfl kw_X2_mix_X2 2 (by decide) (List.mem_of_getElem? (i := 1) rfl) (v := .ref (B 35)) rfl dX2_mix_1 ?_
  refine lv_iconst (v := 0) hx hb dX2_mix_4 (by decide) ?_
  refine rr_iald C hN 35 (Nat.lt_of_lt_of_le (by decide) hNB) rfl (by decide) 0 (by decide) rfl dX2_mix_5 ?_
  refine lv_istore_n (lv' := [(1, .int (u 35 0)), (0, .ref (B 32))]) hx hb dX2_mix_6 rfl hl (by decide) rfl (fun ls hl => ?_)
  refine lv_aload_n hx hb dX2_mix_7 rfl (lv_at hl 1 rfl) ?_
  refine rr_get C hN 32 (Nat.lt_of_lt_of_le (by decide) hNB) rfl rfl kw_X2_mix_X2 2 (by decide) (List.mem_of_getElem? (i := 1) rfl) (v := .ref (B 35)) rfl dX2_mix_8 ?_
  refine lv_iconst (v := 1) hx hb dX2_mix_11 (by decide) ?_
  refine rr_iald C hN 35 (Nat.lt_of_lt_of_le (by decide) hNB) rfl (by decide) 1 (by decide) rfl dX2_mix_12 ?_
  refine lv_istore_n (lv' := [(2, .int (u 35 1)), (1, .int (u 35 0)), (0, .ref (B 32))]) hx hb dX2_mix_13 rfl hl (by decide) rfl (fun ls hl => ?_)
  refine lv_aload_n hx hb dX2_mix_14 rfl (lv_at hl 2 rfl) ?_
  refine rr_get C hN 32 (Nat.lt_of_lt_of_le (by decide) hNB) rfl rfl kw_X2_mix_X2 2 (by decide) (List.mem_of_getElem? (i := 1) rfl) (v := .ref (B 35)) rfl dX2_mix_15 ?_
  refine lv_iconst (v := 2) hx hb dX2_mix_18 (by decide) ?_
  refine rr_iald C hN 35 (Nat.lt_of_lt_of_le (by decide) hNB) rfl (by decide) 2 (by decide) rfl dX2_mix_19 ?_
  refine lv_istore_n (lv' := [(3, .int (u 35 2)), (2, .int (u 35 1)), (1, .int (u 35 0)), (0, .ref (B 32))]) hx hb dX2_mix_20 rfl hl (by decide) rfl (fun ls hl => ?_)
  refine lv_aload_n hx hb dX2_mix_21 rfl (lv_at hl 3 rfl) ?_
  refine rr_get C hN 32 (Nat.lt_of_lt_of_le (by decide) hNB) rfl rfl kw_X2_mix_X2 2 (by decide) (List.mem_of_getElem? (i := 1) rfl) (v := .ref (B 35)) rfl dX2_mix_22 ?_
  refine lv_iconst (v := 3) hx hb dX2_mix_25 (by decide) ?_
  refine rr_iald C hN 35 (Nat.lt_of_lt_of_le (by decide) hNB) rfl (by decide) 3 (by decide) rfl dX2_mix_26 ?_
  refine lv_istore (lv' := [(4, .int (u 35 3)), (3, .int (u 35 2)), (2, .int (u 35 1)), (1, .int (u 35 0)), (0, .ref (B 32))]) hx hb dX2_mix_27 hl (by decide) rfl (fun ls hl => ?_)
  refine lv_aload_n hx hb dX2_mix_29 rfl (lv_at hl 4 rfl) ?_
  refine rr_get C hN 32 (Nat.lt_of_lt_of_le (by decide) hNB) rfl rfl kw_X2_mix_X2 2 (by decide) (List.mem_of_getElem? (i := 1) rfl) (v := .ref (B 35)) rfl dX2_mix_30 ?_
  refine lv_iconst (v := 4) hx hb dX2_mix_33 (by decide) ?_
  refine rr_iald C hN 35 (Nat.lt_of_lt_of_le (by decide) hNB) rfl (by decide) 4 (by decide) rfl dX2_mix_34 ?_
  refine lv_istore (lv' := [(5, .int (u 35 4)), (4, .int (u 35 3)), (3, .int (u 35 2)), (2, .int (u 35 1)), (1, .int (u 35 0)), (0, .ref (B 32))]) hx hb dX2_mix_35 hl (by decide) rfl (fun ls hl => ?_)
  refine lv_aload_n hx hb dX2_mix_37 rfl (lv_at hl 5 rfl) ?_
  refine rr_get C hN 32 (Nat.lt_of_lt_of_le (by decide) hNB) rfl rfl kw_X2_mix_X2 2 (by decide) (List.mem_of_getElem? (i := 1) rfl) (v := .ref (B 35)) rfl dX2_mix_38 ?_
  refine lv_iconst (v := 5) hx hb dX2_mix_41 (by decide) ?_
  refine rr_iald C hN 35 (Nat.lt_of_lt_of_le (by decide) hNB) rfl (by decide) 5 (by decide) rfl dX2_mix_42 ?_
  refine lv_istore (lv' := [(6, .int (u 35 5)), (5, .int (u 35 4)), (4, .int (u 35 3)), (3, .int (u 35 2)), (2, .int (u 35 1)), (1, .int (u 35 0)), (0, .ref (B 32))]) hx hb dX2_mix_43 hl (by decide) rfl (fun ls hl => ?_)
  refine lv_aload_n hx hb dX2_mix_45 rfl (lv_at hl 6 rfl) ?_
  refine rr_get C hN 32 (Nat.lt_of_lt_of_le (by decide) hNB) rfl rfl kw_X2_mix_X2 2 (by decide) (List.mem_of_getElem? (i := 1) rfl) (v := .ref (B 35)) rfl dX2_mix_46 ?_
  refine lv_bipush (v := 6) hx hb dX2_mix_49 (by decide) ?_
  refine rr_iald C hN 35 (Nat.lt_of_lt_of_le (by decide) hNB) rfl (by decide) 6 (by decide) rfl dX2_mix_51 ?_
  refine lv_istore (lv' := [(7, .int (u 35 6)), (6, .int (u 35 5)), (5, .int (u 35 4)), (4, .int (u 35 3)), (3, .int (u 35 2)), (2, .int (u 35 1)), (1, .int (u 35 0)), (0, .ref (B 32))]) hx hb dX2_mix_52 hl (by decide) rfl (fun ls hl => ?_)
  refine lv_aload_n hx hb dX2_mix_54 rfl (lv_at hl 7 rfl) ?_
  refine rr_get C hN 32 (Nat.lt_of_lt_of_le (by decide) hNB) rfl rfl kw_X2_mix_X2 2 (by decide) (List.mem_of_getElem? (i := 1) rfl) (v := .ref (B 35)) rfl dX2_mix_55 ?_
  refine lv_bipush (v := 7) hx hb dX2_mix_58 (by decide) ?_
  refine rr_iald C hN 35 (Nat.lt_of_lt_of_le (by decide) hNB) rfl (by decide) 7 (by decide) rfl dX2_mix_60 ?_
  refine lv_istore (lv' := [(8, .int (u 35 7)), (7, .int (u 35 6)), (6, .int (u 35 5)), (5, .int (u 35 4)), (4, .int (u 35 3)), (3, .int (u 35 2)), (2, .int (u 35 1)), (1, .int (u 35 0)), (0, .ref (B 32))]) hx hb dX2_mix_61 hl (by decide) rfl (fun ls hl => ?_)
  refine lv_iconst (v := 0) hx hb dX2_mix_63 (by decide) ?_
  refine lv_istore (lv' := [(9, .int 0), (8, .int (u 35 7)), (7, .int (u 35 6)), (6, .int (u 35 5)), (5, .int (u 35 4)), (4, .int (u 35 3)), (3, .int (u 35 2)), (2, .int (u 35 1)), (1, .int (u 35 0)), (0, .ref (B 32))]) hx hb dX2_mix_64 hl (by decide) rfl (fun ls hl => ?_)
  exact lp_X2_mix C hNB 64 0 (u 35 0) (u 35 1) (u 35 2) (u 35 3) (u 35 4) (u 35 5) (u 35 6) (u 35 7) 0 u (by omega) rfl rfl rfl _ _ _ hN (lv_sub hl [9, 8, 7, 6, 5, 4, 3, 2, 1, 0] rfl)
set_option maxHeartbeats 4000000 in
set_option maxRecDepth 100000 in
theorem lp_X2_dg2 {p : Program} {l : Launch} {e : Env} {s : State} {m : MethodId} {args : Array Value} {below : List Frame} {meth : Method} {c : Code} {D : va_G} {ca : Nat → ClassId} {B : Nat → Nat} {N n : Nat} {X : va_W} (C : ww_C D ca yX2_digestOf.cls cX2_digestOf 5 wsX2_digestOf none (ww_A B N X s.heap.size) p s m args meth c) (hNB : 36 ≤ N) (cnt tot : Int32) {q0 : Nat} (hq : q0 ≤ 5) (htot : tot = nI (64 * q0))  {r : Option Value} {u' : ww_U} : ∀ (d k : Nat) (x : Int32) (u : ww_U), k + d = q0 → (x = nI (64 * k)) → r = none → u' = cl_dg d k u → ∀ (H : Heap) (locs : List Loc) (ls : Array Slot), ww_N D ca B N n u X (ww_A B N X s.heap.size) s.heap H locs → lv_has ls 5 [(0, .ref (B 32)), (1, .ref (B 31)), (2, .int cnt), (3, .int tot), (4, .int x)] → W p l e (headSpec wsX2_digestOf ({ frames := 3, cells := 0, slots := 0, locals := 75 } : Room)).room s m args below meth c H locs 0 0 (MQ below (ww_Q D ca B N n X s.heap.size r u') args s 0 0 (ww_A B N X s.heap.size)) (F0 m 39 ls []) := by
  have hx := C.1.1
  have hb := C.1.2.1
  have hNN : 29 ≤ N := by omega
  intro d
  induction d with
  | zero =>
    intro k x u hkd hxk hr hu H locs ls hN hl
    refine lv_iload hx hb dX2_digestOf_39 (lv_at hl 4 rfl) ?_
    refine lv_iload_n hx hb dX2_digestOf_41 rfl (lv_at hl 3 rfl) ?_
    refine lv_icmp_ge (tgt := 61) hx hb dX2_digestOf_42 (by decide) (fun c_42 => ?_) (fun c_42 => absurd c_42 (fun h => h (by rw [htot, hxk, show k = q0 by omega]; exact nI_le (Nat.le_refl _) (by omega))))
    exact rr_vret C hN dX2_digestOf_61 hr hu
  | succ d ih =>
    intro k x u hkd hxk hr hu H locs ls hN hl
    refine lv_iload hx hb dX2_digestOf_39 (lv_at hl 4 rfl) ?_
    refine lv_iload_n hx hb dX2_digestOf_41 rfl (lv_at hl 3 rfl) ?_
    refine lv_icmp_ge (tgt := 61) hx hb dX2_digestOf_42 (by decide) (fun c_42 => absurd c_42 (by rw [htot, hxk]; exact nI_ge (by omega) (by omega))) (fun c_42 => ?_)
    refine lv_aload_n hx hb dX2_digestOf_45 rfl (lv_at hl 0 rfl) ?_
    refine lv_iload hx hb dX2_digestOf_46 (lv_at hl 4 rfl) ?_
    refine rr_callV0 (As := [.int x]) C hN 32 (Nat.lt_of_lt_of_le (by decide) hNB) rfl rfl rfl (ct_X2_fillSchedule l (f0 := 64 * k) (by omega) hxk hNB) gX2_digestOf_X2_fillSchedule rfl rfl rfl 1 (by decide +kernel) ⟨Nat.le_of_ble_eq_true rfl, Nat.le_of_ble_eq_true rfl⟩ rfl hl.1 rfl (Nat.le_of_ble_eq_true rfl) ⟨Nat.zero_le _, Nat.zero_le _⟩ dX2_digestOf_48 (fun H locs hN => ?_)
    obtain ⟨us1, eus1⟩ : ∃ y : ww_U, y = cl_fill (64 * k) u := ⟨_, rfl⟩
    rw [← eus1] at hN
    refine lv_aload_n hx hb dX2_digestOf_51 rfl (lv_at hl 0 rfl) ?_
    refine rr_callV0 (As := []) C hN 32 (Nat.lt_of_lt_of_le (by decide) hNB) rfl rfl rfl (ct_X2_mix l hNB) gX2_digestOf_X2_mix rfl rfl rfl 0 (by decide +kernel) ⟨Nat.le_of_ble_eq_true rfl, Nat.le_of_ble_eq_true rfl⟩ rfl hl.1 rfl (Nat.le_of_ble_eq_true rfl) ⟨Nat.zero_le _, Nat.zero_le _⟩ dX2_digestOf_52 (fun H locs hN => ?_)
    obtain ⟨us2, eus2⟩ : ∃ y : ww_U, y = cl_mx us1 := ⟨_, rfl⟩
    rw [← eus2] at hN
    obtain ⟨vs3, evs3⟩ : ∃ y : Int32, y = x + 64 := ⟨_, rfl⟩
    refine lv_iinc (v := vs3) (lv' := [(4, .int vs3), (0, .ref (B 32)), (1, .ref (B 31)), (2, .int cnt), (3, .int tot)]) hx hb dX2_digestOf_55 hl (k := 4) rfl (by rw [evs3]; rfl) (by decide) rfl (fun ls hl => ?_)
    refine lv_goto (tgt := 39) hx hb dX2_digestOf_58 (by decide) ?_
    exact ih (k + 1) vs3 us2 (by omega) (by rw [evs3, hxk]; exact (nI_add (64 * k) 64).trans (congrArg nI (by omega))) hr (hu.trans (by subst_vars; simp only [cl_dg])) H locs ls hN (lv_sub hl [1, 2, 3, 4, 0] rfl)
set_option maxRecDepth 20000 in
theorem kw_X2_digestOf_X2 : ww_K wsX2_digestOf RX2 TX2 3 tyX2 := ⟨by decide +kernel, tyX2_ok, nmX2⟩
set_option maxHeartbeats 4000000 in
set_option maxRecDepth 100000 in
theorem lp_X2_dg1 {p : Program} {l : Launch} {e : Env} {s : State} {m : MethodId} {args : Array Value} {below : List Frame} {meth : Method} {c : Code} {D : va_G} {ca : Nat → ClassId} {B : Nat → Nat} {N n : Nat} {X : va_W} (C : ww_C D ca yX2_digestOf.cls cX2_digestOf 5 wsX2_digestOf none (ww_A B N X s.heap.size) p s m args meth c) (hNB : 36 ≤ N) (cnt tot : Int32) {q0 : Nat} (hq : q0 ≤ 5) (htot : tot = nI (64 * q0))  {r : Option Value} {u' : ww_U} : ∀ (d k : Nat) (x : Int32) (u : ww_U), k + d = 8 → (x = nI k) → r = none → u' = cl_dg q0 0 (cl_sq d k u) → ∀ (H : Heap) (locs : List Loc) (ls : Array Slot), ww_N D ca B N n u X (ww_A B N X s.heap.size) s.heap H locs → lv_has ls 5 [(0, .ref (B 32)), (1, .ref (B 31)), (2, .int cnt), (3, .int tot), (4, .int x)] → W p l e (headSpec wsX2_digestOf ({ frames := 3, cells := 0, slots := 0, locals := 75 } : Room)).room s m args below meth c H locs 0 0 (MQ below (ww_Q D ca B N n X s.heap.size r u') args s 0 0 (ww_A B N X s.heap.size)) (F0 m 10 ls []) := by
  have hx := C.1.1
  have hb := C.1.2.1
  have hNN : 29 ≤ N := by omega
  intro d
  induction d with
  | zero =>
    intro k x u hkd hxk hr hu H locs ls hN hl
    obtain ⟨t1, t2, ⟨hZ1, hT1⟩, hZ2, hT2⟩ := C.2.2.2.2.2
    refine lv_iload hx hb dX2_digestOf_10 (lv_at hl 4 rfl) ?_
    refine lv_bipush (v := 8) hx hb dX2_digestOf_12 (by decide) ?_
    refine lv_icmp_ge (tgt := 36) hx hb dX2_digestOf_14 (by decide) (fun c_14 => ?_) (fun c_14 => absurd c_14 (fun h => h (by rw [hxk, show k = 8 by omega]; decide)))
    refine lv_iconst (v := 0) hx hb dX2_digestOf_36 (by decide) ?_
    refine lv_istore (lv' := [(4, .int 0), (0, .ref (B 32)), (1, .ref (B 31)), (2, .int cnt), (3, .int tot)]) hx hb dX2_digestOf_37 hl (by decide) rfl (fun ls hl => ?_)
    exact lp_X2_dg2 C hNB cnt tot hq htot q0 0 0 u (by omega) rfl hr (hu.trans (by simp only [cl_sq])) H locs ls hN (lv_sub hl [1, 2, 3, 4, 0] rfl)
  | succ d ih =>
    intro k x u hkd hxk hr hu H locs ls hN hl
    obtain ⟨t1, t2, ⟨hZ1, hT1⟩, hZ2, hT2⟩ := C.2.2.2.2.2
    refine lv_iload hx hb dX2_digestOf_10 (lv_at hl 4 rfl) ?_
    refine lv_bipush (v := 8) hx hb dX2_digestOf_12 (by decide) ?_
    refine lv_icmp_ge (tgt := 36) hx hb dX2_digestOf_14 (by decide) (fun c_14 => absurd c_14 (by rw [hxk]; exact (show ¬ nI 8 ≤ nI k from nI_ge (by omega) (by decide)))) (fun c_14 => ?_)
    refine lv_aload_n hx hb dX2_digestOf_17 rfl (lv_at hl 0 rfl) ?_
    refine rr_get C hN 32 (Nat.lt_of_lt_of_le (by decide) hNB) rfl rfl kw_X2_digestOf_X2 2 (by decide) (List.mem_of_getElem? (i := 1) rfl) (v := .ref (B 35)) rfl dX2_digestOf_18 ?_
    refine lv_iload hx hb dX2_digestOf_21 (lv_at hl 4 rfl) ?_
    refine rr_gets C hN hZ1 (List.mem_of_getElem? (i := 2) rfl) dX2_digestOf_23 ?_
    refine lv_iload hx hb dX2_digestOf_26 (lv_at hl 4 rfl) ?_
    refine rr_tald C hN hT1 (by decide) k (by omega) hxk dX2_digestOf_28 ?_
    refine rr_iast C hN 35 (Nat.lt_of_lt_of_le (by decide) hNB) (fun _ => rfl) (by decide) k (by omega) hxk dX2_digestOf_29 (fun us1 eus1 H locs hN => ?_)
    obtain ⟨vs2, evs2⟩ : ∃ y : Int32, y = x + 1 := ⟨_, rfl⟩
    refine lv_iinc (v := vs2) (lv' := [(4, .int vs2), (0, .ref (B 32)), (1, .ref (B 31)), (2, .int cnt), (3, .int tot)]) hx hb dX2_digestOf_30 hl (k := 4) rfl (by rw [evs2]; rfl) (by decide) rfl (fun ls hl => ?_)
    refine lv_goto (tgt := 10) hx hb dX2_digestOf_33 (by decide) ?_
    exact ih (k + 1) vs2 us1 (by omega) (by rw [evs2, hxk]; exact nI_1 k) hr (hu.trans (by subst_vars; simp only [cl_sq])) H locs ls hN (lv_sub hl [1, 2, 3, 4, 0] rfl)
set_option maxHeartbeats 4000000 in
set_option maxRecDepth 100000 in
theorem ct_X2_digestOf (l : Launch) {D : va_G} {ca : Nat → ClassId} {B : Nat → Nat} {N n : Nat} {X : va_W} {u : ww_U} {mm : Nat} (hm : mm ≤ 256) (hNB : 36 ≤ N)  : ww_M l yX2_digestOf wsX2_digestOf ({ frames := 3, cells := 0, slots := 0, locals := 75 } : Room) D ca B N n X u [.ref (B 32), .ref (B 31), .int (nI mm)] none (cl_digest mm u) := by
  refine ww_met (cc := cX2_digestOf) (maxL := 5) (ret := none) (by decide) rfl (Nat.le_of_ble_eq_true rfl) ?_
  intro p e s m args below meth c C hN ls hl
  have hl : lv_has ls 5 [(0, .ref (B 32)), (1, .ref (B 31)), (2, .int (nI mm))] := hl
  have hx := C.1.1
  have hb := C.1.2.1
  have hNN : 29 ≤ N := by omega
  refine lv_aload_n hx hb dX2_digestOf_0 rfl (lv_at hl 0 rfl) ?_
  refine lv_aload_n hx hb dX2_digestOf_1 rfl (lv_at hl 1 rfl) ?_
  refine lv_iload_n hx hb dX2_digestOf_2 rfl (lv_at hl 2 rfl) ?_
  refine rr_callV (As := [.ref (B 31), .int (nI mm)]) C hN 32 (Nat.lt_of_lt_of_le (by decide) hNB) rfl rfl rfl (ct_X2_layOut l hm hNB) gX2_digestOf_X2_layOut rfl rfl rfl 2 (by decide +kernel) ⟨Nat.le_of_ble_eq_true rfl, Nat.le_of_ble_eq_true rfl⟩ rfl hl.1 rfl (Nat.le_of_ble_eq_true rfl) ⟨Nat.zero_le _, Nat.zero_le _⟩ dX2_digestOf_3 (fun H locs hN => ?_)
  obtain ⟨u1, eu1⟩ : ∃ y : ww_U, y = cl_layOut mm u := ⟨_, rfl⟩
  rw [← eu1] at hN
  refine lv_topi (fun v2 ev2 => ?_)
  refine lv_istore_n (lv' := [(3, .int v2), (0, .ref (B 32)), (1, .ref (B 31)), (2, .int (nI mm))]) hx hb dX2_digestOf_6 rfl hl (by decide) rfl (fun ls hl => ?_)
  refine lv_iconst (v := 0) hx hb dX2_digestOf_7 (by decide) ?_
  refine lv_istore (lv' := [(4, .int 0), (3, .int v2), (0, .ref (B 32)), (1, .ref (B 31)), (2, .int (nI mm))]) hx hb dX2_digestOf_8 hl (by decide) rfl (fun ls hl => ?_)
  have hTT := cl_T_eq mm
  exact lp_X2_dg1 C hNB (nI mm) v2 (q0 := cl_T mm / 64) (by omega) (by rw [ev2]; congr 1; omega) 8 0 0 u1 (by omega) rfl rfl (by rw [eu1]; rfl) _ _ _ hN (lv_sub hl [2, 3, 4, 1, 0] rfl)
set_option maxRecDepth 20000 in
theorem kw_X2_resultOctet_X2 : ww_K wsX2_resultOctet RX2 TX2 3 tyX2 := ⟨by decide +kernel, tyX2_ok, nmX2⟩
set_option maxHeartbeats 4000000 in
set_option maxRecDepth 100000 in
theorem ct_X2_resultOctet (l : Launch) {D : va_G} {ca : Nat → ClassId} {B : Nat → Nat} {N n : Nat} {X : va_W} {u : ww_U} {x : Int32} {i : Nat} (hi32 : i < 32) (hxi : x = nI i) (hNB : 36 ≤ N)  : ww_M l yX2_resultOctet wsX2_resultOctet ({ frames := 0, cells := 0, slots := 0, locals := 0 } : Room) D ca B N n X u [.ref (B 32), .int x] (some (.int (cl_oct u i))) u := by
  refine ww_met (cc := cX2_resultOctet) (maxL := 2) (ret := (some .byte)) (by decide) rfl (Nat.le_of_ble_eq_true rfl) ?_
  intro p e s m args below meth c C hN ls hl
  have hl : lv_has ls 2 [(0, .ref (B 32)), (1, .int x)] := hl
  have hx := C.1.1
  have hb := C.1.2.1
  have hNN : 29 ≤ N := by omega
  refine lv_aload_n hx hb dX2_resultOctet_0 rfl (lv_at hl 0 rfl) ?_
  refine rr_get C hN 32 (Nat.lt_of_lt_of_le (by decide) hNB) rfl rfl kw_X2_resultOctet_X2 2 (by decide) (List.mem_of_getElem? (i := 1) rfl) (v := .ref (B 35)) rfl dX2_resultOctet_1 ?_
  refine lv_iload_n hx hb dX2_resultOctet_4 rfl (lv_at hl 1 rfl) ?_
  refine lv_iconst (v := 2) hx hb dX2_resultOctet_5 (by decide) ?_
  refine lv_ishr hx hb dX2_resultOctet_6 ?_
  refine lv_topi (fun v1 ev1 => ?_)
  refine lv_bipush (v := 7) hx hb dX2_resultOctet_7 (by decide) ?_
  refine lv_iand hx hb dX2_resultOctet_9 ?_
  refine lv_topi (fun v2 ev2 => ?_)
  refine rr_iald C hN 35 (Nat.lt_of_lt_of_le (by decide) hNB) rfl (by decide) (i / 4) (by omega) (by rw [ev2, ev1, hxi]; exact (congrArg (fun z : Int32 => z &&& 7) (pk_shrN (by omega) _ 2 (by decide))).trans ((pk_andN (by omega) 3 (by decide)).trans (congrArg nI (by omega)))) dX2_resultOctet_10 ?_
  refine lv_bipush (v := 24) hx hb dX2_resultOctet_11 (by decide) ?_
  refine lv_bipush (v := 8) hx hb dX2_resultOctet_13 (by decide) ?_
  refine lv_iload_n hx hb dX2_resultOctet_15 rfl (lv_at hl 1 rfl) ?_
  refine lv_iconst (v := 3) hx hb dX2_resultOctet_16 (by decide) ?_
  refine lv_iand hx hb dX2_resultOctet_17 ?_
  refine lv_topi (fun v3 ev3 => ?_)
  refine lv_imul hx hb dX2_resultOctet_18 ?_
  refine lv_topi (fun v4 ev4 => ?_)
  refine lv_isub hx hb dX2_resultOctet_19 ?_
  refine lv_topi (fun v5 ev5 => ?_)
  refine lv_iushr hx hb dX2_resultOctet_20 rfl ?_
  refine lv_topi (fun v6 ev6 => ?_)
  refine lv_i2b hx hb dX2_resultOctet_21 rfl ?_
  refine lv_topi (fun v7 ev7 => ?_)
  exact rr_zret C hN dX2_resultOctet_22 (by rw [ev7]; exact pk_nb _) (by subst_vars; rfl) rfl
end
