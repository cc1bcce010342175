section
-- ===== PART A: goes FIRST, ahead of the names: the tables' words, and 'selects' of the private methods out of them =====
/-- a private method of a class that the tables say can be made, by its rows of tables_1 -/
def lw_okq (q : MethodName × Nat) : Prop := (q.1.cls ≠ "java/lang/invoke/MethodHandle" ∧ q.1.cls ≠ "java/lang/invoke/VarHandle") ∧ Cond.instantiable q.1.cls q.2 ∈ tables_1 ∧ Cond.privateMethod q.1 ∈ tables_1 ∧ Cond.instanceMethod q.1 ∈ tables_1
theorem lw_p0 : lw_okq (⟨"NecklaceSisters$Text", "signAt", "(I)C"⟩, 2) := ⟨⟨by decide +kernel, by decide +kernel⟩, List.mem_of_getElem? (i := 31) (by decide +kernel), List.mem_of_getElem? (i := 178) (by decide +kernel), List.mem_of_getElem? (i := 179) (by decide +kernel)⟩
theorem lw_p1 : lw_okq (⟨"NecklaceSisters$Necklace", "putJewel", "(III)V"⟩, 9) := ⟨⟨by decide +kernel, by decide +kernel⟩, List.mem_of_getElem? (i := 46) (by decide +kernel), List.mem_of_getElem? (i := 263) (by decide +kernel), List.mem_of_getElem? (i := 264) (by decide +kernel)⟩
theorem lw_p2 : lw_okq (⟨"NecklaceSisters$Necklace", "putOwner", "(II)V"⟩, 9) := ⟨⟨by decide +kernel, by decide +kernel⟩, List.mem_of_getElem? (i := 46) (by decide +kernel), List.mem_of_getElem? (i := 271) (by decide +kernel), List.mem_of_getElem? (i := 272) (by decide +kernel)⟩
theorem lw_p3 : lw_okq (⟨"NecklaceSisters$Division", "isOddOfAKind", "()Z"⟩, 4) := ⟨⟨by decide +kernel, by decide +kernel⟩, List.mem_of_getElem? (i := 108) (by decide +kernel), List.mem_of_getElem? (i := 311) (by decide +kernel), List.mem_of_getElem? (i := 312) (by decide +kernel)⟩
theorem lw_p4 : lw_okq (⟨"NecklaceSisters$Division", "sumAhead", "(I)J"⟩, 4) := ⟨⟨by decide +kernel, by decide +kernel⟩, List.mem_of_getElem? (i := 108) (by decide +kernel), List.mem_of_getElem? (i := 315) (by decide +kernel), List.mem_of_getElem? (i := 316) (by decide +kernel)⟩
theorem lw_p5 : lw_okq (⟨"NecklaceSisters$Division", "withRun", "(JIII)J"⟩, 4) := ⟨⟨by decide +kernel, by decide +kernel⟩, List.mem_of_getElem? (i := 108) (by decide +kernel), List.mem_of_getElem? (i := 323) (by decide +kernel), List.mem_of_getElem? (i := 324) (by decide +kernel)⟩
theorem lw_p6 : lw_okq (⟨"NecklaceSisters$Division", "isOverHalf", "(J)Z"⟩, 4) := ⟨⟨by decide +kernel, by decide +kernel⟩, List.mem_of_getElem? (i := 108) (by decide +kernel), List.mem_of_getElem? (i := 327) (by decide +kernel), List.mem_of_getElem? (i := 328) (by decide +kernel)⟩
theorem lw_p7 : lw_okq (⟨"NecklaceSisters$Division", "keepCut", "(II)V"⟩, 4) := ⟨⟨by decide +kernel, by decide +kernel⟩, List.mem_of_getElem? (i := 108) (by decide +kernel), List.mem_of_getElem? (i := 332) (by decide +kernel), List.mem_of_getElem? (i := 333) (by decide +kernel)⟩
theorem lw_p8 : lw_okq (⟨"NecklaceSisters", "gapWith", "(II)I"⟩, 7) := ⟨⟨by decide +kernel, by decide +kernel⟩, List.mem_of_getElem? (i := 23) (by decide +kernel), List.mem_of_getElem? (i := 366) (by decide +kernel), List.mem_of_getElem? (i := 367) (by decide +kernel)⟩
theorem lw_p9 : lw_okq (⟨"java/lang/Throwable", "fillInStackTrace", "(I)Ljava/lang/Throwable;"⟩, 6) := ⟨⟨by decide +kernel, by decide +kernel⟩, List.mem_of_getElem? (i := 449) (by decide +kernel), List.mem_of_getElem? (i := 447) (by decide +kernel), List.mem_of_getElem? (i := 448) (by decide +kernel)⟩
theorem lw_p10 : lw_okq (⟨"NecklaceSisters$Text", "performs", "(ILNecklaceSisters$Necklace;)Z"⟩, 2) := ⟨⟨by decide +kernel, by decide +kernel⟩, List.mem_of_getElem? (i := 31) (by decide +kernel), List.mem_of_getElem? (i := 518) (by decide +kernel), List.mem_of_getElem? (i := 519) (by decide +kernel)⟩
theorem lw_p11 : lw_okq (⟨"NecklaceSisters$Text", "digitAt", "(I)I"⟩, 2) := ⟨⟨by decide +kernel, by decide +kernel⟩, List.mem_of_getElem? (i := 31) (by decide +kernel), List.mem_of_getElem? (i := 522) (by decide +kernel), List.mem_of_getElem? (i := 523) (by decide +kernel)⟩
theorem lw_p12 : lw_okq (⟨"NecklaceSisters$Text", "numberAt", "(I)I"⟩, 2) := ⟨⟨by decide +kernel, by decide +kernel⟩, List.mem_of_getElem? (i := 31) (by decide +kernel), List.mem_of_getElem? (i := 536) (by decide +kernel), List.mem_of_getElem? (i := 537) (by decide +kernel)⟩
theorem lw_p13 : lw_okq (⟨"NecklaceSisters", "fewestCutsOf", "(LNecklaceSisters$Necklace;)I"⟩, 7) := ⟨⟨by decide +kernel, by decide +kernel⟩, List.mem_of_getElem? (i := 23) (by decide +kernel), List.mem_of_getElem? (i := 745) (by decide +kernel), List.mem_of_getElem? (i := 746) (by decide +kernel)⟩
theorem lw_p14 : lw_okq (⟨"NecklaceSisters$Division", "gapOf", "(J)I"⟩, 4) := ⟨⟨by decide +kernel, by decide +kernel⟩, List.mem_of_getElem? (i := 108) (by decide +kernel), List.mem_of_getElem? (i := 818) (by decide +kernel), List.mem_of_getElem? (i := 819) (by decide +kernel)⟩
theorem lw_p15 : lw_okq (⟨"NecklaceSistersModel", "refused", "(I)Z"⟩, 13) := ⟨⟨by decide +kernel, by decide +kernel⟩, List.mem_of_getElem? (i := 910) (by decide +kernel), List.mem_of_getElem? (i := 975) (by decide +kernel), List.mem_of_getElem? (i := 976) (by decide +kernel)⟩
def lw_privs_1 : List (MethodName × Nat) := [(⟨"NecklaceSisters$Text", "signAt", "(I)C"⟩, 2), (⟨"NecklaceSisters$Necklace", "putJewel", "(III)V"⟩, 9), (⟨"NecklaceSisters$Necklace", "putOwner", "(II)V"⟩, 9), (⟨"NecklaceSisters$Division", "isOddOfAKind", "()Z"⟩, 4), (⟨"NecklaceSisters$Division", "sumAhead", "(I)J"⟩, 4), (⟨"NecklaceSisters$Division", "withRun", "(JIII)J"⟩, 4), (⟨"NecklaceSisters$Division", "isOverHalf", "(J)Z"⟩, 4), (⟨"NecklaceSisters$Division", "keepCut", "(II)V"⟩, 4), (⟨"NecklaceSisters", "gapWith", "(II)I"⟩, 7), (⟨"java/lang/Throwable", "fillInStackTrace", "(I)Ljava/lang/Throwable;"⟩, 6), (⟨"NecklaceSisters$Text", "performs", "(ILNecklaceSisters$Necklace;)Z"⟩, 2), (⟨"NecklaceSisters$Text", "digitAt", "(I)I"⟩, 2), (⟨"NecklaceSisters$Text", "numberAt", "(I)I"⟩, 2), (⟨"NecklaceSisters", "fewestCutsOf", "(LNecklaceSisters$Necklace;)I"⟩, 7), (⟨"NecklaceSisters$Division", "gapOf", "(J)I"⟩, 4), (⟨"NecklaceSistersModel", "refused", "(I)Z"⟩, 13)]
theorem lw_r1 : ∀ q ∈ lw_privs_1, lw_okq q := List.forall_mem_cons.mpr ⟨lw_p0, List.forall_mem_cons.mpr ⟨lw_p1, List.forall_mem_cons.mpr ⟨lw_p2, List.forall_mem_cons.mpr ⟨lw_p3, List.forall_mem_cons.mpr ⟨lw_p4, List.forall_mem_cons.mpr ⟨lw_p5, List.forall_mem_cons.mpr ⟨lw_p6, List.forall_mem_cons.mpr ⟨lw_p7, List.forall_mem_cons.mpr ⟨lw_p8, List.forall_mem_cons.mpr ⟨lw_p9, List.forall_mem_cons.mpr ⟨lw_p10, List.forall_mem_cons.mpr ⟨lw_p11, List.forall_mem_cons.mpr ⟨lw_p12, List.forall_mem_cons.mpr ⟨lw_p13, List.forall_mem_cons.mpr ⟨lw_p14, List.forall_mem_cons.mpr ⟨lw_p15, fun _ h => absurd h List.not_mem_nil⟩⟩⟩⟩⟩⟩⟩⟩⟩⟩⟩⟩⟩⟩⟩⟩
theorem lw_p16 : lw_okq (⟨"NecklaceSistersModel", "readText", "([I)I"⟩, 13) := ⟨⟨by decide +kernel, by decide +kernel⟩, List.mem_of_getElem? (i := 910) (by decide +kernel), List.mem_of_getElem? (i := 987) (by decide +kernel), List.mem_of_getElem? (i := 988) (by decide +kernel)⟩
theorem lw_p17 : lw_okq (⟨"NecklaceSistersModel", "readCommand", "([I)Z"⟩, 13) := ⟨⟨by decide +kernel, by decide +kernel⟩, List.mem_of_getElem? (i := 910) (by decide +kernel), List.mem_of_getElem? (i := 991) (by decide +kernel), List.mem_of_getElem? (i := 992) (by decide +kernel)⟩
theorem lw_p18 : lw_okq (⟨"NecklaceSistersModel", "readJewel", "([I)Z"⟩, 13) := ⟨⟨by decide +kernel, by decide +kernel⟩, List.mem_of_getElem? (i := 910) (by decide +kernel), List.mem_of_getElem? (i := 995) (by decide +kernel), List.mem_of_getElem? (i := 996) (by decide +kernel)⟩
theorem lw_p19 : lw_okq (⟨"NecklaceSistersModel", "figures", "(IIII)I"⟩, 13) := ⟨⟨by decide +kernel, by decide +kernel⟩, List.mem_of_getElem? (i := 910) (by decide +kernel), List.mem_of_getElem? (i := 1000) (by decide +kernel), List.mem_of_getElem? (i := 1001) (by decide +kernel)⟩
theorem lw_p20 : lw_okq (⟨"NecklaceSistersModel", "done", "(Z)Z"⟩, 13) := ⟨⟨by decide +kernel, by decide +kernel⟩, List.mem_of_getElem? (i := 910) (by decide +kernel), List.mem_of_getElem? (i := 1008) (by decide +kernel), List.mem_of_getElem? (i := 1009) (by decide +kernel)⟩
theorem lw_p21 : lw_okq (⟨"NecklaceSistersModel", "remember", "()V"⟩, 13) := ⟨⟨by decide +kernel, by decide +kernel⟩, List.mem_of_getElem? (i := 910) (by decide +kernel), List.mem_of_getElem? (i := 1113) (by decide +kernel), List.mem_of_getElem? (i := 1114) (by decide +kernel)⟩
theorem lw_p22 : lw_okq (⟨"NecklaceSistersModel", "fewestOf", "([I)I"⟩, 13) := ⟨⟨by decide +kernel, by decide +kernel⟩, List.mem_of_getElem? (i := 910) (by decide +kernel), List.mem_of_getElem? (i := 1153) (by decide +kernel), List.mem_of_getElem? (i := 1154) (by decide +kernel)⟩
theorem lw_p23 : lw_okq (⟨"NecklaceSistersModel", "layOut", "([I)V"⟩, 13) := ⟨⟨by decide +kernel, by decide +kernel⟩, List.mem_of_getElem? (i := 910) (by decide +kernel), List.mem_of_getElem? (i := 1157) (by decide +kernel), List.mem_of_getElem? (i := 1158) (by decide +kernel)⟩
theorem lw_p24 : lw_okq (⟨"NecklaceSistersModel", "leastWith", "(II)I"⟩, 13) := ⟨⟨by decide +kernel, by decide +kernel⟩, List.mem_of_getElem? (i := 910) (by decide +kernel), List.mem_of_getElem? (i := 1161) (by decide +kernel), List.mem_of_getElem? (i := 1162) (by decide +kernel)⟩
theorem lw_p25 : lw_okq (⟨"NecklaceSistersModel", "firstWay", "(II)Z"⟩, 13) := ⟨⟨by decide +kernel, by decide +kernel⟩, List.mem_of_getElem? (i := 910) (by decide +kernel), List.mem_of_getElem? (i := 1165) (by decide +kernel), List.mem_of_getElem? (i := 1166) (by decide +kernel)⟩
theorem lw_p26 : lw_okq (⟨"NecklaceSistersModel", "gapTried", "(II)I"⟩, 13) := ⟨⟨by decide +kernel, by decide +kernel⟩, List.mem_of_getElem? (i := 910) (by decide +kernel), List.mem_of_getElem? (i := 1169) (by decide +kernel), List.mem_of_getElem? (i := 1170) (by decide +kernel)⟩
theorem lw_p27 : lw_okq (⟨"NecklaceSistersModel", "nextWay", "(II)Z"⟩, 13) := ⟨⟨by decide +kernel, by decide +kernel⟩, List.mem_of_getElem? (i := 910) (by decide +kernel), List.mem_of_getElem? (i := 1173) (by decide +kernel), List.mem_of_getElem? (i := 1174) (by decide +kernel)⟩
theorem lw_p28 : lw_okq (⟨"NecklaceSistersModel", "gapWith", "(II)I"⟩, 13) := ⟨⟨by decide +kernel, by decide +kernel⟩, List.mem_of_getElem? (i := 910) (by decide +kernel), List.mem_of_getElem? (i := 1206) (by decide +kernel), List.mem_of_getElem? (i := 1207) (by decide +kernel)⟩
theorem lw_p29 : lw_okq (⟨"NecklaceSistersModel", "command", "(II)Z"⟩, 13) := ⟨⟨by decide +kernel, by decide +kernel⟩, List.mem_of_getElem? (i := 910) (by decide +kernel), List.mem_of_getElem? (i := 1219) (by decide +kernel), List.mem_of_getElem? (i := 1220) (by decide +kernel)⟩
theorem lw_p30 : lw_okq (⟨"NecklaceSistersModel", "isDivided", "(I)Z"⟩, 13) := ⟨⟨by decide +kernel, by decide +kernel⟩, List.mem_of_getElem? (i := 910) (by decide +kernel), List.mem_of_getElem? (i := 1223) (by decide +kernel), List.mem_of_getElem? (i := 1224) (by decide +kernel)⟩
def lw_privs_2 : List (MethodName × Nat) := [(⟨"NecklaceSistersModel", "readText", "([I)I"⟩, 13), (⟨"NecklaceSistersModel", "readCommand", "([I)Z"⟩, 13), (⟨"NecklaceSistersModel", "readJewel", "([I)Z"⟩, 13), (⟨"NecklaceSistersModel", "figures", "(IIII)I"⟩, 13), (⟨"NecklaceSistersModel", "done", "(Z)Z"⟩, 13), (⟨"NecklaceSistersModel", "remember", "()V"⟩, 13), (⟨"NecklaceSistersModel", "fewestOf", "([I)I"⟩, 13), (⟨"NecklaceSistersModel", "layOut", "([I)V"⟩, 13), (⟨"NecklaceSistersModel", "leastWith", "(II)I"⟩, 13), (⟨"NecklaceSistersModel", "firstWay", "(II)Z"⟩, 13), (⟨"NecklaceSistersModel", "gapTried", "(II)I"⟩, 13), (⟨"NecklaceSistersModel", "nextWay", "(II)Z"⟩, 13), (⟨"NecklaceSistersModel", "gapWith", "(II)I"⟩, 13), (⟨"NecklaceSistersModel", "command", "(II)Z"⟩, 13), (⟨"NecklaceSistersModel", "isDivided", "(I)Z"⟩, 13)]
theorem lw_r2 : ∀ q ∈ lw_privs_2, lw_okq q := List.forall_mem_cons.mpr ⟨lw_p16, List.forall_mem_cons.mpr ⟨lw_p17, List.forall_mem_cons.mpr ⟨lw_p18, List.forall_mem_cons.mpr ⟨lw_p19, List.forall_mem_cons.mpr ⟨lw_p20, List.forall_mem_cons.mpr ⟨lw_p21, List.forall_mem_cons.mpr ⟨lw_p22, List.forall_mem_cons.mpr ⟨lw_p23, List.forall_mem_cons.mpr ⟨lw_p24, List.forall_mem_cons.mpr ⟨lw_p25, List.forall_mem_cons.mpr ⟨lw_p26, List.forall_mem_cons.mpr ⟨lw_p27, List.forall_mem_cons.mpr ⟨lw_p28, List.forall_mem_cons.mpr ⟨lw_p29, List.forall_mem_cons.mpr ⟨lw_p30, fun _ h => absurd h List.not_mem_nil⟩⟩⟩⟩⟩⟩⟩⟩⟩⟩⟩⟩⟩⟩⟩
def lw_privs : List (MethodName × Nat) := lw_privs_1 ++ (lw_privs_2)
def lw_tbl : List Cond := k2_sels lw_privs ++ tables_1
theorem lw_privs_ok : ∀ q ∈ lw_privs, lw_okq q := by
  show ∀ q ∈ lw_privs_1 ++ (lw_privs_2), lw_okq q
  exact List.forall_mem_append.mpr ⟨lw_r1, lw_r2⟩
end
section
/-! ===== BEGIN words of one list among another's, by their places ===== -/
theorem goodIn_r {big : List Cond} (ws : List Cond) (ps : List Nat) (hp : ws = ps.filterMap (fun i => big[i]?)) (h : ws.all goodWord = true) : GoodIn big ws := by
  intro w hw
  have h1 := List.all_eq_true.mp h w hw
  rw [hp] at hw
  obtain ⟨i, -, hi⟩ := List.mem_filterMap.mp hw
  have hm : w ∈ big := by first | exact List.mem_of_getElem? hi | exact List.getElem?_mem hi
  exact ⟨hm, good_of_word h1⟩
theorem goodIn_app {big a b : List Cond} (ha : GoodIn big a) (hb : GoodIn big b) : GoodIn big (a ++ b) := fun w h => (List.mem_append.mp h).elim (ha w) (hb w)
theorem goodIn_ca {big a b : List Cond} {c : Cond} (ha : GoodIn big (c :: a)) (hb : GoodIn big b) : GoodIn big (c :: (a ++ b)) := fun w h => (List.mem_cons.mp h).elim (fun e => ha w (List.mem_cons.mpr (Or.inl e))) (fun h => (List.mem_append.mp h).elim (fun h => ha w (List.mem_cons.mpr (Or.inr h))) (hb w))
theorem goodIn_sub {big ws : List Cond} (hm : ∀ w ∈ ws, w ∈ big) (h : ws.all goodWord = true) : GoodIn big ws := fun w hw => ⟨hm w hw, good_of_word (List.all_eq_true.mp h w hw)⟩
/-! ===== END ===== -/

/-! ===== BEGIN exceptions that leave a method, and their catching by the caller (launches without stack traces) ===== -/
section VXA
/-! The laws vx_back, vx_callV, vx_callS, vx_callSW, vx_throw0, vx_throwS follow proofs of the library, with one case more: JvmDerived/Free/Laws.lean (Back.of_free), Shelf42/LK1.lean (callV, callS), Shelf/KitTraced.lean (throwNew0V, throwNewS). -/
/-- where a method has thrown q: the class by its name, the cell, what was written, the world -/
def vx_T (XC : String → State → State → Prop) (st : State) (q : Addr) (t : State) (mc ms : Nat) (free : Addr → Prop) : Prop :=
  ∃ (E : String) (ce : Cell) (L : List Loc), XC E st t ∧ t.heap[q]? = some ce ∧ ce.vm = .none ∧ st.vm.findClass E = some ce.cls ∧ st.WarmedH t.vm ∧ st.sameButNew ({ t with vm := st.vm } : State) L mc ms ∧ ∀ z ∈ L, free z.base
def vx_Q (Qc : Array Value → State → Outcome → State → Prop) (XC : String → State → State → Prop) (mc ms : Nat) (free : Addr → Prop) : Array Value → State → Outcome → State → Prop := fun a st o t =>
  (Qc a st o t ∧ ∃ L, FrameEnd st o t L mc ms ∧ ∀ q ∈ L, free q.base) ∨ ∃ q, o = .threw q ∧ vx_T XC st q t mc ms free
/-- a callee that returns or throws -/
def vx_Met (l : Launch) (y : MethodName) (ws : List Cond) (rm : Room) (Pc : Array Value → State → Prop) (Qc : Array Value → State → Outcome → State → Prop) (XC : String → State → State → Prop) (mc ms : Nat) (free : Addr → Prop) : Prop :=
  MetFree l y (headSpec ws rm) Pc (fun _ _ _ _ _ => True) (vx_Q Qc XC mc ms free)
def vx_Post (XC : String → State → State → Prop) (mc ms : Nat) (free : Addr → Prop) : Pt → Array Value → Addr → Pt → Prop := fun A a q B =>
  ∃ (g : JFrame) (mk : MethodId) (t : State) (L : List Loc) (E : String) (ce : Cell), B.U.heap = t.heap ∧ B.U.vm = t.vm ∧ XC E (A.U.calling g mk a) t ∧ t.heap[q]? = some ce ∧ ce.vm = .none ∧ A.U.vm.findClass E = some ce.cls ∧ B.locs = A.locs ++ L ∧ (∀ z ∈ L, free z.base) ∧ B.cells = A.cells + mc ∧ B.slots = A.slots + ms
def vx_Back (l : Launch) (R : Room) (p : Program) (e : Env) (below : List Frame) (s : State) (sargs : Array Value) (y : MethodName) (len W9 : Nat)
    (Pre : Pt → Array Value → Prop) (Post : Pt → Array Value → Option Value → Pt → Prop) (PostX : Pt → Array Value → Addr → Pt → Prop) : Prop :=
  ∀ (m : MethodId) (meth : Method) (c : Code) (A : Pt) (g : JFrame) (ig : Instr) (mk : MethodId) (a : Array Value),
    Stand p l e R s m sargs below meth c A.U A.locs A.cells A.slots → g.method = m → g.locals.size = c.maxLocals → decode c.code g.pc = .ok (ig, len) →
    2 * g.monitorRoom + (g.stack.map fun v => v.category).sum ≤ W9 → A.U.methodNamed? y = some mk → Pre A a →
    (∃ (v : Option Value) (B : Pt), Stand p l e R s m sargs below meth c B.U B.locs B.cells B.slots ∧ Post A a v B ∧
      Steps p.tables e below (doInvoke e (A.U.setTop g) [] mk a).1 (B.U.setTop { g with pc := g.pc + len, stack := v.toList ++ g.stack })) ∨
    (∃ (q : Addr) (B : Pt), Stand p l e R s m sargs below meth c B.U B.locs B.cells B.slots ∧ PostX A a q B ∧
      Steps p.tables e below (doInvoke e (A.U.setTop g) [] mk a).1 ((B.U.setTop g).pushFrame (.throwing q)))
section Payer
variable {l : Launch} {R : Room} {p : Program} {e : Env} {below : List Frame} {s : State} {sargs : Array Value} {y : MethodName} {len W9 : Nat}
theorem vx_back {ws : List Cond} {rm : Room} {Pc : Array Value → State → Prop} {Qc : Array Value → State → Outcome → State → Prop} {XC : String → State → State → Prop} {mc ms : Nat} {free : Addr → Prop} {bytes : ByteArray} {maxL : Nat} {ret : Option FieldType}
    (hM : vx_Met l y ws rm Pc Qc XC mc ms free) (hblind : FrameBlind Pc) (hrc : rm.cells = mc) (hrs : rm.slots = ms)
    (hframes : rm.frames + 1 ≤ R.frames) (hlocals : W9 + (maxL + 11) + rm.locals ≤ R.locals)
    (hws : ∀ w ∈ ws, ∀ a' U, s.WarmedH U.vm → w.before a' U = true) (hcode : Cond.code y bytes maxL ret ∈ ws) (hinit : ∀ a' U, s.WarmedH U.vm → (Cond.initialized y.cls).before a' U = true) :
    vx_Back l R p e below s sargs y len W9 (PreOf R mc ms Pc) (PostOf Qc mc ms free) (vx_Post XC mc ms free) := by
  intro m meth c A g ig mk a X hg hsize hdg hW hn hp
  have h1 : (headSpec ws rm).pre.before a A.U = true := atoms_intro fun w hw => hws w hw _ _ X.warmed
  have h2 : (Cond.code y bytes maxL ret).before a A.U = true := hws _ hcode _ _ X.warmed
  have h3 : (Cond.initialized y.cls).before a A.U = true := hinit _ _ X.warmed
  have h4 : A.cells + (headSpec ws rm).room.cells ≤ R.cells := by rw [show (headSpec ws rm).room.cells = mc from hrc]; exact hp.1
  have h5 : A.slots + (headSpec ws rm).room.slots ≤ R.slots := by rw [show (headSpec ws rm).room.slots = ms from hrs]; exact hp.2.1
  have hPc : Pc a (A.U.calling g mk a) := hblind _ _ _ _ hp.2.2
  obtain ⟨U, Ls, c0, s0⟩ := A
  dsimp only [Pt.U, Pt.locs, Pt.cells, Pt.slots] at h1 h2 h3 h4 h5 X hn hPc ⊢
  obtain ⟨methY, cY, hmY, hcY, -, hlY, -, -, -, -⟩ := Cond.code_spec hn h2
  obtain ⟨kY, hkY, -⟩ := className_of_methodNamed hn
  have hinitY : kY.init = .initialized := Cond.initialized_spec (findClass_of_methodNamed hn) hkY h3
  have h : At U g.method c below := by rw [hg]; exact X.here
  have hlocals9 : W9 + (maxL + 11) + (headSpec ws rm).room.locals ≤ R.locals := hlocals
  have happ : (headSpec ws rm).appliesLoose y e.platform (U.calling g mk a) = true :=
    Spec.appliesLoose_calling (g := g) h hdg hn hkY hinitY
      (X.room_calling (g := g) (R' := (headSpec ws rm).room) hsize hmY hcY hframes (by rw [hlY]; omega) h4 h5) h1
  obtain ⟨mid, hmid⟩ := h.above
  have hfr : (U.setTop g).frames = (.java g :: mid) ++ below := by rw [State.frames_setTop' g h.top, hmid]; rfl
  obtain ⟨o, s₂, hsteps, -, hend, hq⟩ := Steps.callFree hM p X.admits X.cas X.clock (acts := []) hfr happ hPc trivial
  have hq' : vx_Q Qc XC mc ms free a (U.calling g mk a) o s₂ := hq
  rw [State.frames_setTop' g h.top] at hend
  obtain ⟨g₀, hg0⟩ := Option.isSome_iff_exists.mp h.top
  obtain ⟨r, hr⟩ := State.topJava?_eq_some.mp hg0
  have hr' : (({ U with heap := s₂.heap, slotsUsed := s₂.slotsUsed } : State).setVm s₂.vm).frames = .java g₀ :: r := hr
  rcases hq' with ⟨hqc, L, hfe, hL⟩ | ⟨q, rfl, E, ce, L, hx, hce, hcv, hcl, hW₂, hsm, hL⟩
  · obtain ⟨⟨v, rfl⟩, hW₂, e2, q2, q3, q4, q5, q6⟩ := id hfe
    have e3 : s₂ = ({ (U.calling g mk a).setFrames s₂.frames with heap := s₂.heap, slotsUsed := s₂.slotsUsed } : State).setVm s₂.vm := by
      have : s₂ = ({ s₂ with vm := (U.calling g mk a).vm } : State).setVm s₂.vm := rfl
      rw [e2] at this
      exact this
    obtain ⟨c₂, i₂, len₂, hc₂, hd₂, hf₂⟩ := hend
    have hW' : U.WarmedH s₂.vm := hW₂
    have hcc : c₂ = c := by
      have h1 : s₂.code? g.method = U.code? g.method := by
        rw [State.code?_eq, State.code?_eq, hW'.alike.method?]
      exact Option.some.inj (hc₂.symm.trans (h1.trans h.code))
    subst hcc
    have hlen : len₂ = len := by rw [hdg] at hd₂; cases hd₂; rfl
    subst hlen
    have hs₂ : s₂ = (({ U with heap := s₂.heap, slotsUsed := s₂.slotsUsed } : State).setVm s₂.vm).setTop { g with pc := g.pc + len₂, stack := v.toList ++ g.stack } := by
      refine e3.trans ?_
      rw [hf₂, State.calling_eq h.top, State.setFrames_setFrames, State.setTop_of_frames _ hr', hr]
      rfl
    have hsame : U.sameButNew ({ U with heap := s₂.heap, slotsUsed := s₂.slotsUsed } : State) L mc ms := by
      refine ⟨?_, q2, q3, q4, q5, q6⟩
      obtain ⟨t, ht, -⟩ := State.frames_cons hr
      show ({ U with heap := s₂.heap, slotsUsed := s₂.slotsUsed } : State) = { U.setFrames U.frames with heap := s₂.heap, slotsUsed := s₂.slotsUsed }
      rw [State.setFrames_self ht]
    subst hg
    refine Or.inl ⟨v, ⟨(({ U with heap := s₂.heap, slotsUsed := s₂.slotsUsed } : State).setVm s₂.vm), Ls ++ L, c0 + mc, s0 + ms⟩,
      ⟨X.admits, X.cas, X.clock, X.frames, X.room, X.hears, X.method, X.code, (X.here.setHeapUsed s₂.heap s₂.slotsUsed).setVm hW'.alike, X.tail, State.WarmedH.trans X.warmed hW', X.limits, X.bytes, X.same.trans (hsame.setVm s.vm)⟩,
      ⟨g, mk, s₂, L, rfl, rfl, hqc, rfl, hL, rfl, rfl⟩, ?_⟩
    show Steps p.tables e below _ ((({ U with heap := s₂.heap, slotsUsed := s₂.slotsUsed } : State).setVm s₂.vm).setTop { g with pc := g.pc + len₂, stack := v.toList ++ g.stack })
    rw [← hs₂]
    exact hsteps
  · obtain ⟨e2, q2, q3, q4, q5, q6⟩ := id hsm
    have e3 : s₂ = ({ (U.calling g mk a).setFrames s₂.frames with heap := s₂.heap, slotsUsed := s₂.slotsUsed } : State).setVm s₂.vm := by
      have : s₂ = ({ s₂ with vm := (U.calling g mk a).vm } : State).setVm s₂.vm := rfl
      rw [e2] at this
      exact this
    have hf₂ : s₂.frames = .throwing q :: .java g :: U.frames.tail := hend
    have hW' : U.WarmedH s₂.vm := hW₂
    have hs₂ : s₂ = ((({ U with heap := s₂.heap, slotsUsed := s₂.slotsUsed } : State).setVm s₂.vm).setTop g).pushFrame (.throwing q) := by
      refine e3.trans ?_
      rw [hf₂, State.calling_eq h.top, State.setFrames_setFrames, State.pushFrame, State.frames_setTop _ hr', State.setTop_of_frames _ hr', State.setFrames_setFrames, hr]
      rfl
    have hsame : U.sameButNew ({ U with heap := s₂.heap, slotsUsed := s₂.slotsUsed } : State) L mc ms := by
      refine ⟨?_, q2, q3, q4, q5, q6⟩
      obtain ⟨t, ht, -⟩ := State.frames_cons hr
      show ({ U with heap := s₂.heap, slotsUsed := s₂.slotsUsed } : State) = { U.setFrames U.frames with heap := s₂.heap, slotsUsed := s₂.slotsUsed }
      rw [State.setFrames_self ht]
    subst hg
    refine Or.inr ⟨q, ⟨(({ U with heap := s₂.heap, slotsUsed := s₂.slotsUsed } : State).setVm s₂.vm), Ls ++ L, c0 + mc, s0 + ms⟩,
      ⟨X.admits, X.cas, X.clock, X.frames, X.room, X.hears, X.method, X.code, (X.here.setHeapUsed s₂.heap s₂.slotsUsed).setVm hW'.alike, X.tail, State.WarmedH.trans X.warmed hW', X.limits, X.bytes, X.same.trans (hsame.setVm s.vm)⟩,
      ⟨g, mk, s₂, L, E, ce, rfl, rfl, hx, hce, hcv, hcl, rfl, hL, rfl, rfl⟩, ?_⟩
    show Steps p.tables e below _ (((({ U with heap := s₂.heap, slotsUsed := s₂.slotsUsed } : State).setVm s₂.vm).setTop g).pushFrame (.throwing q))
    rw [← hs₂]
    exact hsteps
end Payer
section Calls
variable {p : Program} {l : Launch} {e : Env} {R : Room} {s : State} {m : MethodId} {args : Array Value} {below : List Frame} {meth : Method} {c : Code} {T : State} {locs : List Loc} {cells slots : Nat}
theorem vx_callV (X : Stand p l e R s m args below meth c T locs cells slots) (hexec : p.tables.exec = Jvm.exec) {own C : String} {index : Nat} {y : MethodName} {bytes : ByteArray} {maxL : Nat} {ret : Option FieldType}
    (hown : s.vm.findClass own = some m.cls) (hlink : (Cond.methodLink own index y).before args s = true) (hinst : (Cond.instanceMethod y).before args s = true) (hsel : (Cond.selects C y y).before args s = true)
    (hcode : (Cond.code y bytes maxL ret).before args s = true) (hy : y.cls ≠ "java/lang/invoke/MethodHandle" ∧ y.cls ≠ "java/lang/invoke/VarHandle")
    {W9 : Nat} {Pre : Pt → Array Value → Prop} {Post : Pt → Array Value → Option Value → Pt → Prop} {PostX : Pt → Array Value → Addr → Pt → Prop} (hK : vx_Back l R p e below s args y 3 W9 Pre Post PostX)
    {b : Addr} {cellB : Cell} (hcell : T.heap[b]? = some cellB) (hobj : cellB.vm.isStatics = false) (hcls : s.vm.findClass C = some cellB.cls)
    {g : JFrame} (hg : g.method = m) (hsize : g.locals.size = c.maxLocals) {argsL rest : List Value} (hlen : ∀ sig, parseMethodDescriptor y.desc = some sig → argsL.length = sig.parameters.length)
    (hstack : g.stack = argsL.reverse ++ .ref b :: rest) (hW : 2 * g.monitorRoom + (rest.map fun v => v.category).sum ≤ W9) (hdg : decode c.code g.pc = .ok (.invokevirtual index, 3))
    (hpre : ∀ vm₁, s.WarmedH vm₁ → Pre ⟨T.setVm vm₁, locs, cells, slots⟩ (Value.ref b :: argsL).toArray) :
    (∃ (v : Option Value) (vm₁ : Vm) (B : Pt), s.WarmedH vm₁ ∧ Stand p l e R s m args below meth c B.U B.locs B.cells B.slots ∧ Post ⟨T.setVm vm₁, locs, cells, slots⟩ (Value.ref b :: argsL).toArray v B ∧
      ∀ target, Steps p.tables e below (B.U.setTop { g with pc := g.pc + 3, stack := v.toList ++ rest }) target → Steps p.tables e below (T.setTop g) target) ∨
    (∃ (q : Addr) (vm₁ : Vm) (B : Pt), s.WarmedH vm₁ ∧ Stand p l e R s m args below meth c B.U B.locs B.cells B.slots ∧ PostX ⟨T.setVm vm₁, locs, cells, slots⟩ (Value.ref b :: argsL).toArray q B ∧
      Steps p.tables e below (T.setTop g) ((B.U.setTop { g with stack := rest }).pushFrame (.throwing q))) := by
  obtain ⟨mk, methM, hnamed, hmethM, hstM, habM⟩ := Cond.instanceMethod_spec hinst
  obtain ⟨methM', cM, hmethM', -, -, -, -, -, -, hsigM⟩ := Cond.code_spec hnamed hcode
  cases hmethM.symm.trans hmethM'
  obtain ⟨c2, r2, m2, q1, q2, q3, q4, kP, hkP, hkPi⟩ := Cond.selects_spec hsel
  cases hcls.symm.trans q1
  cases (State.methodFound?_of_named hnamed hy).symm.trans q2
  cases hnamed.symm.trans q3
  have hselP : selectMethod e.platform s.vm cellB.cls mk = .method mk := by rw [Launch.admits_selectMethod X.admits]; exact q4
  obtain ⟨vm₁, X₁, hstep₁⟩ := X.invokevirtual hexec hown hlink hnamed hmethM hstM hkP hkPi hy (a := b) (cell := cellB) hcell
    (fun z h => by rw [h] at hobj; cases hobj) hselP hmethM habM hkP hkPi (g := g) hg (argsL := argsL) (rest := rest) (hlen _ hsigM) hstack hdg
  rcases hK m meth c ⟨T.setVm vm₁, locs, cells, slots⟩ { g with stack := rest } (.invokevirtual index) mk (Value.ref b :: argsL).toArray X₁ hg hsize hdg hW (X₁.named hnamed) (hpre vm₁ X₁.warmed) with ⟨v, B, X', hpost, hsteps⟩ | ⟨q, B, X', hpost, hsteps⟩
  · exact Or.inl ⟨v, vm₁, B, X₁.warmed, X', hpost, fun target h => hstep₁ _ fun acts => by rw [doInvoke_state]; exact hsteps.trans h⟩
  · exact Or.inr ⟨q, vm₁, B, X₁.warmed, X', hpost, hstep₁ _ fun acts => by rw [doInvoke_state]; exact hsteps⟩
theorem vx_callS (X : Stand p l e R s m args below meth c T locs cells slots) (hexec : p.tables.exec = Jvm.exec) {own : String} {index : Nat} {y : MethodName} {bytes : ByteArray} {maxL : Nat} {ret : Option FieldType}
    (hown : s.vm.findClass own = some m.cls) (hlink : (Cond.methodLink own index y).before args s = true) (hstat : (Cond.static y).before args s = true) (hinit : (Cond.initialized y.cls).before args s = true)
    (hcode : (Cond.code y bytes maxL ret).before args s = true) (hy : y.cls ≠ "java/lang/invoke/MethodHandle" ∧ y.cls ≠ "java/lang/invoke/VarHandle")
    {W9 : Nat} {Pre : Pt → Array Value → Prop} {Post : Pt → Array Value → Option Value → Pt → Prop} {PostX : Pt → Array Value → Addr → Pt → Prop} (hK : vx_Back l R p e below s args y 3 W9 Pre Post PostX)
    {g : JFrame} (hg : g.method = m) (hsize : g.locals.size = c.maxLocals) {argsL rest : List Value} (hlen : ∀ sig, parseMethodDescriptor y.desc = some sig → argsL.length = sig.parameters.length)
    (hstack : g.stack = argsL.reverse ++ rest) (hW : 2 * g.monitorRoom + (rest.map fun v => v.category).sum ≤ W9) (hdg : decode c.code g.pc = .ok (.invokestatic index, 3))
    (hpre : ∀ vm₁, s.WarmedH vm₁ → Pre ⟨T.setVm vm₁, locs, cells, slots⟩ argsL.toArray) :
    (∃ (v : Option Value) (vm₁ : Vm) (B : Pt), s.WarmedH vm₁ ∧ Stand p l e R s m args below meth c B.U B.locs B.cells B.slots ∧ Post ⟨T.setVm vm₁, locs, cells, slots⟩ argsL.toArray v B ∧
      ∀ target, Steps p.tables e below (B.U.setTop { g with pc := g.pc + 3, stack := v.toList ++ rest }) target → Steps p.tables e below (T.setTop g) target) ∨
    (∃ (q : Addr) (vm₁ : Vm) (B : Pt), s.WarmedH vm₁ ∧ Stand p l e R s m args below meth c B.U B.locs B.cells B.slots ∧ PostX ⟨T.setVm vm₁, locs, cells, slots⟩ argsL.toArray q B ∧
      Steps p.tables e below (T.setTop g) ((B.U.setTop { g with stack := rest }).pushFrame (.throwing q))) := by
  obtain ⟨mk, hnamed⟩ := Cond.code_named hcode
  obtain ⟨methM, cM, hmethM, -, -, -, -, -, -, hsigM⟩ := Cond.code_spec hnamed hcode
  have hstatic : methM.isStatic = true := Cond.static_spec hnamed hmethM hstat
  obtain ⟨kP, hkP, -⟩ := className_of_methodNamed hnamed
  have hinitP : kP.init = .initialized := Cond.initialized_spec (findClass_of_methodNamed hnamed) hkP hinit
  obtain ⟨vm₁, X₁, hstep₁⟩ := X.invokestatic hexec hown hlink hnamed hmethM hstatic hkP hinitP hy (g := g) hg (argsL := argsL) (rest := rest) (hlen _ hsigM) hstack hdg
  rcases hK m meth c ⟨T.setVm vm₁, locs, cells, slots⟩ { g with stack := rest } (.invokestatic index) mk argsL.toArray X₁ hg hsize hdg hW (X₁.named hnamed) (hpre vm₁ X₁.warmed) with ⟨v, B, X', hpost, hsteps⟩ | ⟨q, B, X', hpost, hsteps⟩
  · exact Or.inl ⟨v, vm₁, B, X₁.warmed, X', hpost, fun target h => hstep₁ _ fun acts => by rw [doInvoke_state]; exact hsteps.trans h⟩
  · exact Or.inr ⟨q, vm₁, B, X₁.warmed, X', hpost, hstep₁ _ fun acts => by rw [doInvoke_state]; exact hsteps⟩
end Calls
theorem vx_cls {s : State} {T : State} {vm₁ : Vm} {E : String} {k : ClassId} (hW : s.WarmedH vm₁) (h : (T.setVm vm₁).vm.findClass E = some k) : s.vm.findClass E = some k := by
  have h1 : vm₁.findClass E = some k := h
  rw [hW.alike.findClass] at h1
  exact h1
/-- the method's frame g, with q thrown over it -/
def vx_W (p : Program) (l : Launch) (e : Env) (R : Room) (s : State) (m : MethodId) (args : Array Value) (below : List Frame) (meth : Method) (c : Code) (H : Heap) (locs : List Loc) (cells slots : Nat) (Q : State → Prop) (g : JFrame) (q : Addr) : Prop :=
  ∀ T : State, T.heap = H → Stand p l e R s m args below meth c T locs cells slots → ∃ t, Steps p.tables e below ((T.setTop g).pushFrame (.throwing q)) t ∧ Q t
def vx_Run (p : Program) (l : Launch) (e : Env) (R : Room) (s : State) (m : MethodId) (args : Array Value) (below : List Frame) (meth : Method) (c : Code) (H : Heap) (locs : List Loc) (cells slots mc ms : Nat) (g : JFrame) (rest : List Value) (Qa : State → Outcome → State → Prop) (XC : String → State → State → Prop) (free : Addr → Prop) : Prop :=
  ∀ T : State, T.heap = H → Stand p l e R s m args below meth c T locs cells slots →
    (∃ (v : Option Value) (st₀ t T' : State) (L : List Loc), st₀.heap = H ∧ Stand p l e R s m args below meth c T' (locs ++ L) (cells + mc) (slots + ms) ∧ (∀ q ∈ L, free q.base) ∧ T'.heap = t.heap ∧ T'.vm = t.vm ∧ Qa st₀ (.returned v) t ∧
      Goes p e below T g T' { g with pc := g.pc + 3, stack := v.toList ++ rest }) ∨
    (∃ (q : Addr) (st₀ t T' : State) (L : List Loc) (E : String) (ce : Cell), st₀.heap = H ∧ Stand p l e R s m args below meth c T' (locs ++ L) (cells + mc) (slots + ms) ∧ (∀ z ∈ L, free z.base) ∧ T'.heap = t.heap ∧ T'.vm = t.vm ∧ XC E st₀ t ∧ t.heap[q]? = some ce ∧ ce.vm = .none ∧ s.vm.findClass E = some ce.cls ∧
      Steps p.tables e below (T.setTop g) ((T'.setTop { g with stack := rest }).pushFrame (.throwing q)))
def vx_X {S : Type} (px : S → Prop) (B : String → S → State → Prop) (A : Nat → Prop) : String → State → State → Prop := fun E st t => ∃ u : S, px u ∧ B E u t ∧ va_F A st t
section Runs
variable {p : Program} {l : Launch} {e : Env} {R : Room} {s : State} {m : MethodId} {args : Array Value} {below : List Frame} {meth : Method} {c : Code} {H : Heap} {locs : List Loc} {cells slots : Nat}
variable {y : MethodName} {bytes cc : ByteArray} {maxL nL mc ms n index : Nat} {ret : Option FieldType} {ws : List Cond} {rm : Room} {Pc : Array Value → State → Prop} {Qc : Array Value → State → Outcome → State → Prop} {XC : String → State → State → Prop} {free : Addr → Prop} {Ts : List Cond} {own C : String} {b : Addr} {As rest : List Value} {g : JFrame}
theorem vx_callBack (cb : CallB R s args own index y bytes maxL ret ws rm mc ms n) (hM : vx_Met l y ws rm Pc Qc XC mc ms free) (hbl : FrameBlind Pc) : vx_Back l R p e below s args y 3 8 (PreOf R mc ms Pc) (PostOf Qc mc ms free) (vx_Post XC mc ms free) := by
  obtain ⟨hrc, hrs, hfr, hlo, hws, hcw, -, hini, -⟩ := cb
  exact vx_back (bytes := bytes) (maxL := maxL) (ret := ret) hM hbl hrc hrs hfr hlo hws hcw (fun a' U hW => word_at hW (Or.inl (by first | rfl | simp [Cond.onTables, Cond.keeps, Cond.steady])) hini)
theorem vx_runV (S : CallFix p m c cc nL s args Ts own) (hM : vx_Met l y ws rm Pc Qc XC mc ms free) (cw : CallW R s args own C index y bytes maxL ret ws rm mc ms n) (hp : PreV s H C b Pc As)
    (hg : g.method = m) (hn : As.length = n) (hsize : g.locals.size = nL) (hstack : g.stack = As.reverse ++ .ref b :: rest) (hW : 2 * g.monitorRoom + (rest.map fun v => v.category).sum ≤ 8) (hdg : decode cc g.pc = .ok (.invokevirtual index, 3)) (hf : cells + mc ≤ R.cells ∧ slots + ms ≤ R.slots) :
    vx_Run p l e R s m args below meth c H locs cells slots mc ms g rest (Qc (Value.ref b :: As).toArray) XC free := by
  have hK : vx_Back l R p e below s args y 3 8 (PreOf R mc ms Pc) (PostOf Qc mc ms free) (vx_Post XC mc ms free) := vx_callBack cw.1 hM hp.1
  obtain ⟨⟨-, -, -, -, -, -, hcode, -, hy, hlen, hl⟩, hin, hse⟩ := cw
  obtain ⟨hx, hb, hml, ho, -⟩ := S
  obtain ⟨-, ⟨cellB, hcB, hoB, hclB⟩, hPc⟩ := hp
  intro T hT X
  rcases vx_callV X hx (C := C) (bytes := bytes) (maxL := maxL) (ret := ret) ho hl hin hse hcode hy hK (by rw [hT]; exact hcB) hoB hclB hg (hsize.trans hml.symm) (argsL := As) (rest := rest) (fun sig h => hn.trans (hlen sig h)) hstack hW (by rw [hb]; exact hdg)
    (fun vm₁ hW₁ => ⟨hf.1, hf.2, hPc (T.setVm vm₁) hT hW₁⟩) with ⟨v, vm₁, ⟨U', l2, c2, s2⟩, hW₁, X', ⟨g', mk, t, L, e1, e2, hq, h1, hL, h2, h3⟩, st⟩ | ⟨q, vm₁, ⟨U', l2, c2, s2⟩, hW₁, X', ⟨g', mk, t, L, E, ce, e1, e2, hq, hce, hcv, hcl, h1, hL, h2, h3⟩, st⟩
  · dsimp only [Pt.U, Pt.locs, Pt.cells, Pt.slots] at X' e1 e2 h1 h2 h3 st
    subst h1; subst h2; subst h3
    exact Or.inl ⟨v, (T.setVm vm₁).calling g' mk (Value.ref b :: As).toArray, t, U', L, hT, X', hL, e1, e2, hq, st⟩
  · dsimp only [Pt.U, Pt.locs, Pt.cells, Pt.slots] at X' e1 e2 h1 h2 h3 st hcl
    subst h1; subst h2; subst h3
    exact Or.inr ⟨q, (T.setVm vm₁).calling g' mk (Value.ref b :: As).toArray, t, U', L, E, ce, hT, X', hL, e1, e2, hq, hce, hcv, vx_cls hW₁ hcl, st⟩
theorem vx_runS (S : CallFix p m c cc nL s args Ts own) (hM : vx_Met l y ws rm Pc Qc XC mc ms free) (cw : CallB R s args own index y bytes maxL ret ws rm mc ms n ∧ (Cond.static y).before args s = true) (hp : PreS s H Pc As)
    (hg : g.method = m) (hn : As.length = n) (hsize : g.locals.size = nL) (hstack : g.stack = As.reverse ++ rest) (hW : 2 * g.monitorRoom + (rest.map fun v => v.category).sum ≤ 8) (hdg : decode cc g.pc = .ok (.invokestatic index, 3)) (hf : cells + mc ≤ R.cells ∧ slots + ms ≤ R.slots) :
    vx_Run p l e R s m args below meth c H locs cells slots mc ms g rest (Qc As.toArray) XC free := by
  have hK : vx_Back l R p e below s args y 3 8 (PreOf R mc ms Pc) (PostOf Qc mc ms free) (vx_Post XC mc ms free) := vx_callBack cw.1 hM hp.1
  obtain ⟨⟨-, -, -, -, -, -, hcode, hini, hy, hlen, hl⟩, hstt⟩ := cw
  obtain ⟨hx, hb, hml, ho, -⟩ := S
  intro T hT X
  rcases vx_callS X hx (bytes := bytes) (maxL := maxL) (ret := ret) ho hl hstt hini hcode hy hK hg (hsize.trans hml.symm) (argsL := As) (rest := rest) (fun sig h => hn.trans (hlen sig h)) hstack hW (by rw [hb]; exact hdg)
    (fun vm₁ hW₁ => ⟨hf.1, hf.2, hp.2 (T.setVm vm₁) hT hW₁⟩) with ⟨v, vm₁, ⟨U', l2, c2, s2⟩, hW₁, X', ⟨g', mk, t, L, e1, e2, hq, h1, hL, h2, h3⟩, st⟩ | ⟨q, vm₁, ⟨U', l2, c2, s2⟩, hW₁, X', ⟨g', mk, t, L, E, ce, e1, e2, hq, hce, hcv, hcl, h1, hL, h2, h3⟩, st⟩
  · dsimp only [Pt.U, Pt.locs, Pt.cells, Pt.slots] at X' e1 e2 h1 h2 h3 st
    subst h1; subst h2; subst h3
    exact Or.inl ⟨v, (T.setVm vm₁).calling g' mk As.toArray, t, U', L, hT, X', hL, e1, e2, hq, st⟩
  · dsimp only [Pt.U, Pt.locs, Pt.cells, Pt.slots] at X' e1 e2 h1 h2 h3 st hcl
    subst h1; subst h2; subst h3
    exact Or.inr ⟨q, (T.setVm vm₁).calling g' mk As.toArray, t, U', L, E, ce, hT, X', hL, e1, e2, hq, hce, hcv, vx_cls hW₁ hcl, st⟩
end Runs
section Rows
variable {p : Program} {l : Launch} {e : Env} {R : Room} {s : State} {m : MethodId} {args : Array Value} {below : List Frame} {meth : Method} {c : Code} {H : Heap} {locs : List Loc} {cells slots : Nat} {Q : State → Prop}
variable {mc ms : Nat} {free : Addr → Prop} {A0 A1 : Nat → Prop} {H0 : Heap} {a : Array Value} {pc : Nat} {ls : Array Slot} {st0 rest : List Value}
theorem vx_keep {st₀ t T' : State} {L : List Loc} (h0 : st₀.heap = H) (e1 : T'.heap = t.heap) (hS : va_S A0 H0 H locs) (hA : ∀ q, q < H.size → A1 q → A0 q) (hf : ∀ q, free q → A0 q) (hL : ∀ q ∈ L, free q.base) (hF : va_F A1 st₀ t) :
    H.size ≤ T'.heap.size ∧ (∀ q : Nat, q < H.size → ¬ A1 q → T'.heap[q]? = H[q]?) ∧ va_S A0 H0 T'.heap (locs ++ L) := by
  obtain ⟨hz, hk⟩ := hF
  rw [h0] at hz hk
  exact ⟨by rw [e1]; exact hz, fun q h1 h2 => by rw [e1]; exact hk q h1 h2,
    ⟨Nat.le_trans hS.1 (by rw [e1]; exact hz), fun q h1 h2 => by rw [e1, hk q (Nat.lt_of_lt_of_le h1 hS.1) (fun z => h2 (hA q (Nat.lt_of_lt_of_le h1 hS.1) z))]; exact hS.2.1 q h1 h2, fun q hq => by
      rcases List.mem_append.mp hq with h | h
      · exact hS.2.2 q h
      · exact hf _ (hL q h)⟩⟩
theorem vx_calli {S SX : Type} {post : Int32 → S → Prop} {px : SX → Prop} {B : S → State → Prop} {BX : String → SX → State → Prop} {AX : Nat → Prop} (hr : vx_Run p l e R s m args below meth c H locs cells slots mc ms (F0 m pc ls st0) rest (va_Qi post B A1 a) (vx_X px BX AX) free) (hS : va_S A0 H0 H locs) (hA : ∀ q, q < H.size → A1 q → A0 q) (hf : ∀ q, free q → A0 q) (hAX : ∀ q, q < H.size → AX q → A0 q)
    (kx : ∀ (E : String) (ce : Cell) (q9 : Addr) (u : SX) (t : State) (H1 : Heap) (locs1 : List Loc), t.heap = H1 → s.vm.Alike t.vm → px u → BX E u t → H.size ≤ H1.size → (∀ q : Nat, q < H.size → ¬ AX q → H1[q]? = H[q]?) → va_S A0 H0 H1 locs1 → H1[q9]? = some ce → ce.vm = .none → s.vm.findClass E = some ce.cls → vx_W p l e R s m args below meth c H1 locs1 (cells + mc) (slots + ms) Q (F0 m pc ls rest) q9)
    (kk : ∀ (r : Int32) (u : S) (t : State) (H1 : Heap) (locs1 : List Loc), t.heap = H1 → s.vm.Alike t.vm → post r u → B u t → H.size ≤ H1.size → (∀ q : Nat, q < H.size → ¬ A1 q → H1[q]? = H[q]?) → va_S A0 H0 H1 locs1 → W p l e R s m args below meth c H1 locs1 (cells + mc) (slots + ms) Q (F0 m (pc + 3) ls (.int r :: rest))) : W p l e R s m args below meth c H locs cells slots Q (F0 m pc ls st0) := by
  intro T hT X
  rcases hr T hT X with ⟨v, st₀, t, T', L, h0, X', hL, e1, e2, ⟨⟨r, u, hv, hp, hb⟩, hF⟩, st⟩ | ⟨q, st₀, t, T', L, E, ce, h0, X', hL, e1, e2, ⟨u, hp, hb, hF⟩, hce, hcv, hcl, st⟩
  · cases hv
    obtain ⟨k1, k2, k3⟩ := vx_keep h0 e1 hS hA hf hL hF
    obtain ⟨t2, a1, b1⟩ := kk r u t T'.heap (locs ++ L) e1.symm (by rw [← e2]; exact X'.warmed.alike) hp hb k1 k2 k3 T' rfl X'
    exact ⟨t2, st t2 a1, b1⟩
  · obtain ⟨k1, k2, k3⟩ := vx_keep h0 e1 hS hAX hf hL hF
    obtain ⟨t2, a1, b1⟩ := kx E ce q u t T'.heap (locs ++ L) e1.symm (by rw [← e2]; exact X'.warmed.alike) hp hb k1 k2 k3 (by rw [e1]; exact hce) hcv hcl T' rfl X'
    exact ⟨t2, st.trans a1, b1⟩
theorem vx_calll {S SX : Type} {post : Int64 → S → Prop} {px : SX → Prop} {B : S → State → Prop} {BX : String → SX → State → Prop} {AX : Nat → Prop} (hr : vx_Run p l e R s m args below meth c H locs cells slots mc ms (F0 m pc ls st0) rest (va_Ql post B A1 a) (vx_X px BX AX) free) (hS : va_S A0 H0 H locs) (hA : ∀ q, q < H.size → A1 q → A0 q) (hf : ∀ q, free q → A0 q) (hAX : ∀ q, q < H.size → AX q → A0 q)
    (kx : ∀ (E : String) (ce : Cell) (q9 : Addr) (u : SX) (t : State) (H1 : Heap) (locs1 : List Loc), t.heap = H1 → s.vm.Alike t.vm → px u → BX E u t → H.size ≤ H1.size → (∀ q : Nat, q < H.size → ¬ AX q → H1[q]? = H[q]?) → va_S A0 H0 H1 locs1 → H1[q9]? = some ce → ce.vm = .none → s.vm.findClass E = some ce.cls → vx_W p l e R s m args below meth c H1 locs1 (cells + mc) (slots + ms) Q (F0 m pc ls rest) q9)
    (kk : ∀ (r : Int64) (u : S) (t : State) (H1 : Heap) (locs1 : List Loc), t.heap = H1 → s.vm.Alike t.vm → post r u → B u t → H.size ≤ H1.size → (∀ q : Nat, q < H.size → ¬ A1 q → H1[q]? = H[q]?) → va_S A0 H0 H1 locs1 → W p l e R s m args below meth c H1 locs1 (cells + mc) (slots + ms) Q (F0 m (pc + 3) ls (.long r :: rest))) : W p l e R s m args below meth c H locs cells slots Q (F0 m pc ls st0) := by
  intro T hT X
  rcases hr T hT X with ⟨v, st₀, t, T', L, h0, X', hL, e1, e2, ⟨⟨r, u, hv, hp, hb⟩, hF⟩, st⟩ | ⟨q, st₀, t, T', L, E, ce, h0, X', hL, e1, e2, ⟨u, hp, hb, hF⟩, hce, hcv, hcl, st⟩
  · cases hv
    obtain ⟨k1, k2, k3⟩ := vx_keep h0 e1 hS hA hf hL hF
    obtain ⟨t2, a1, b1⟩ := kk r u t T'.heap (locs ++ L) e1.symm (by rw [← e2]; exact X'.warmed.alike) hp hb k1 k2 k3 T' rfl X'
    exact ⟨t2, st t2 a1, b1⟩
  · obtain ⟨k1, k2, k3⟩ := vx_keep h0 e1 hS hAX hf hL hF
    obtain ⟨t2, a1, b1⟩ := kx E ce q u t T'.heap (locs ++ L) e1.symm (by rw [← e2]; exact X'.warmed.alike) hp hb k1 k2 k3 (by rw [e1]; exact hce) hcv hcl T' rfl X'
    exact ⟨t2, st.trans a1, b1⟩
theorem vx_callf {S SX : Type} {post : UInt32 → S → Prop} {px : SX → Prop} {B : S → State → Prop} {BX : String → SX → State → Prop} {AX : Nat → Prop} (hr : vx_Run p l e R s m args below meth c H locs cells slots mc ms (F0 m pc ls st0) rest (va_Qf post B A1 a) (vx_X px BX AX) free) (hS : va_S A0 H0 H locs) (hA : ∀ q, q < H.size → A1 q → A0 q) (hf : ∀ q, free q → A0 q) (hAX : ∀ q, q < H.size → AX q → A0 q)
    (kx : ∀ (E : String) (ce : Cell) (q9 : Addr) (u : SX) (t : State) (H1 : Heap) (locs1 : List Loc), t.heap = H1 → s.vm.Alike t.vm → px u → BX E u t → H.size ≤ H1.size → (∀ q : Nat, q < H.size → ¬ AX q → H1[q]? = H[q]?) → va_S A0 H0 H1 locs1 → H1[q9]? = some ce → ce.vm = .none → s.vm.findClass E = some ce.cls → vx_W p l e R s m args below meth c H1 locs1 (cells + mc) (slots + ms) Q (F0 m pc ls rest) q9)
    (kk : ∀ (r : UInt32) (u : S) (t : State) (H1 : Heap) (locs1 : List Loc), t.heap = H1 → s.vm.Alike t.vm → post r u → B u t → H.size ≤ H1.size → (∀ q : Nat, q < H.size → ¬ A1 q → H1[q]? = H[q]?) → va_S A0 H0 H1 locs1 → W p l e R s m args below meth c H1 locs1 (cells + mc) (slots + ms) Q (F0 m (pc + 3) ls (.float r :: rest))) : W p l e R s m args below meth c H locs cells slots Q (F0 m pc ls st0) := by
  intro T hT X
  rcases hr T hT X with ⟨v, st₀, t, T', L, h0, X', hL, e1, e2, ⟨⟨r, u, hv, hp, hb⟩, hF⟩, st⟩ | ⟨q, st₀, t, T', L, E, ce, h0, X', hL, e1, e2, ⟨u, hp, hb, hF⟩, hce, hcv, hcl, st⟩
  · cases hv
    obtain ⟨k1, k2, k3⟩ := vx_keep h0 e1 hS hA hf hL hF
    obtain ⟨t2, a1, b1⟩ := kk r u t T'.heap (locs ++ L) e1.symm (by rw [← e2]; exact X'.warmed.alike) hp hb k1 k2 k3 T' rfl X'
    exact ⟨t2, st t2 a1, b1⟩
  · obtain ⟨k1, k2, k3⟩ := vx_keep h0 e1 hS hAX hf hL hF
    obtain ⟨t2, a1, b1⟩ := kx E ce q u t T'.heap (locs ++ L) e1.symm (by rw [← e2]; exact X'.warmed.alike) hp hb k1 k2 k3 (by rw [e1]; exact hce) hcv hcl T' rfl X'
    exact ⟨t2, st.trans a1, b1⟩
theorem vx_calld {S SX : Type} {post : UInt64 → S → Prop} {px : SX → Prop} {B : S → State → Prop} {BX : String → SX → State → Prop} {AX : Nat → Prop} (hr : vx_Run p l e R s m args below meth c H locs cells slots mc ms (F0 m pc ls st0) rest (va_Qd post B A1 a) (vx_X px BX AX) free) (hS : va_S A0 H0 H locs) (hA : ∀ q, q < H.size → A1 q → A0 q) (hf : ∀ q, free q → A0 q) (hAX : ∀ q, q < H.size → AX q → A0 q)
    (kx : ∀ (E : String) (ce : Cell) (q9 : Addr) (u : SX) (t : State) (H1 : Heap) (locs1 : List Loc), t.heap = H1 → s.vm.Alike t.vm → px u → BX E u t → H.size ≤ H1.size → (∀ q : Nat, q < H.size → ¬ AX q → H1[q]? = H[q]?) → va_S A0 H0 H1 locs1 → H1[q9]? = some ce → ce.vm = .none → s.vm.findClass E = some ce.cls → vx_W p l e R s m args below meth c H1 locs1 (cells + mc) (slots + ms) Q (F0 m pc ls rest) q9)
    (kk : ∀ (r : UInt64) (u : S) (t : State) (H1 : Heap) (locs1 : List Loc), t.heap = H1 → s.vm.Alike t.vm → post r u → B u t → H.size ≤ H1.size → (∀ q : Nat, q < H.size → ¬ A1 q → H1[q]? = H[q]?) → va_S A0 H0 H1 locs1 → W p l e R s m args below meth c H1 locs1 (cells + mc) (slots + ms) Q (F0 m (pc + 3) ls (.double r :: rest))) : W p l e R s m args below meth c H locs cells slots Q (F0 m pc ls st0) := by
  intro T hT X
  rcases hr T hT X with ⟨v, st₀, t, T', L, h0, X', hL, e1, e2, ⟨⟨r, u, hv, hp, hb⟩, hF⟩, st⟩ | ⟨q, st₀, t, T', L, E, ce, h0, X', hL, e1, e2, ⟨u, hp, hb, hF⟩, hce, hcv, hcl, st⟩
  · cases hv
    obtain ⟨k1, k2, k3⟩ := vx_keep h0 e1 hS hA hf hL hF
    obtain ⟨t2, a1, b1⟩ := kk r u t T'.heap (locs ++ L) e1.symm (by rw [← e2]; exact X'.warmed.alike) hp hb k1 k2 k3 T' rfl X'
    exact ⟨t2, st t2 a1, b1⟩
  · obtain ⟨k1, k2, k3⟩ := vx_keep h0 e1 hS hAX hf hL hF
    obtain ⟨t2, a1, b1⟩ := kx E ce q u t T'.heap (locs ++ L) e1.symm (by rw [← e2]; exact X'.warmed.alike) hp hb k1 k2 k3 (by rw [e1]; exact hce) hcv hcl T' rfl X'
    exact ⟨t2, st.trans a1, b1⟩
theorem vx_callv {S SX : Type} {post : S → Prop} {px : SX → Prop} {B : S → State → Prop} {BX : String → SX → State → Prop} {AX : Nat → Prop} (hr : vx_Run p l e R s m args below meth c H locs cells slots mc ms (F0 m pc ls st0) rest (va_Qv post B A1 a) (vx_X px BX AX) free) (hS : va_S A0 H0 H locs) (hA : ∀ q, q < H.size → A1 q → A0 q) (hf : ∀ q, free q → A0 q) (hAX : ∀ q, q < H.size → AX q → A0 q)
    (kx : ∀ (E : String) (ce : Cell) (q9 : Addr) (u : SX) (t : State) (H1 : Heap) (locs1 : List Loc), t.heap = H1 → s.vm.Alike t.vm → px u → BX E u t → H.size ≤ H1.size → (∀ q : Nat, q < H.size → ¬ AX q → H1[q]? = H[q]?) → va_S A0 H0 H1 locs1 → H1[q9]? = some ce → ce.vm = .none → s.vm.findClass E = some ce.cls → vx_W p l e R s m args below meth c H1 locs1 (cells + mc) (slots + ms) Q (F0 m pc ls rest) q9)
    (kk : ∀ (u : S) (t : State) (H1 : Heap) (locs1 : List Loc), t.heap = H1 → s.vm.Alike t.vm → post u → B u t → H.size ≤ H1.size → (∀ q : Nat, q < H.size → ¬ A1 q → H1[q]? = H[q]?) → va_S A0 H0 H1 locs1 → W p l e R s m args below meth c H1 locs1 (cells + mc) (slots + ms) Q (F0 m (pc + 3) ls (rest))) : W p l e R s m args below meth c H locs cells slots Q (F0 m pc ls st0) := by
  intro T hT X
  rcases hr T hT X with ⟨v, st₀, t, T', L, h0, X', hL, e1, e2, ⟨⟨u, hv, hp, hb⟩, hF⟩, st⟩ | ⟨q, st₀, t, T', L, E, ce, h0, X', hL, e1, e2, ⟨u, hp, hb, hF⟩, hce, hcv, hcl, st⟩
  · cases hv
    obtain ⟨k1, k2, k3⟩ := vx_keep h0 e1 hS hA hf hL hF
    obtain ⟨t2, a1, b1⟩ := kk u t T'.heap (locs ++ L) e1.symm (by rw [← e2]; exact X'.warmed.alike) hp hb k1 k2 k3 T' rfl X'
    exact ⟨t2, st t2 a1, b1⟩
  · obtain ⟨k1, k2, k3⟩ := vx_keep h0 e1 hS hAX hf hL hF
    obtain ⟨t2, a1, b1⟩ := kx E ce q u t T'.heap (locs ++ L) e1.symm (by rw [← e2]; exact X'.warmed.alike) hp hb k1 k2 k3 (by rw [e1]; exact hce) hcv hcl T' rfl X'
    exact ⟨t2, st.trans a1, b1⟩
/-- caught by the row x of this method's table; the rows ahead don't take it -/
theorem vx_catch {own name : String} {E : String} {ce : Cell} {q : Addr} (hown : s.vm.findClass own = some m.cls) (pre : List ExceptionTableEntry) (x : ExceptionTableEntry) (suf : List ExceptionTableEntry) (hsplit : c.exceptionTable.toList = pre ++ x :: suf)
    (hpass : ∀ z ∈ pre, covers z pc = false ∨ (z.catchType ≠ 0 ∧ ∃ nm : String, (Cond.classLink own z.catchType nm).before args s = true ∧ va_Nc E nm s)) (hx : covers x pc = true) (h0 : x.catchType ≠ 0)
    (hlink : (Cond.classLink own x.catchType name).before args s = true) (hcast : (Cond.castable E name).before args s = true) (hcell : H[q]? = some ce) (hv : ce.vm = .none) (hcl : s.vm.findClass E = some ce.cls)
    (kk : W p l e R s m args below meth c H locs cells slots Q (F0 m x.handlerPc ls [.ref q])) : vx_W p l e R s m args below meth c H locs cells slots Q (F0 m pc ls rest) q := by
  intro T hT X
  have hpl : e.platform.magicAccessors = ({} : Platform).magicAccessors := by rw [X.admits.platform]
  obtain ⟨c3, c4, hc3, hc4, hasg⟩ := Cond.castable_spec hcast
  cases Option.some.inj (hc3.symm.trans hcl)
  obtain ⟨c5, hc5, hcl5⟩ := Cond.classLink_spec hown hlink e.platform hpl
  cases Option.some.inj (hc4.symm.trans hc5)
  obtain ⟨vm', X', st⟩ := X.thenCaughtThrough q (g := F0 m pc ls rest) rfl (Steps.refl _) (by rw [hT]; exact hcell) (by rw [hv]; rfl) (by obtain ⟨k9, h9, -⟩ := Vm.findClass_spec hcl; exact ⟨k9, h9⟩) pre x suf hsplit
    (fun z hz => by
      rcases hpass z hz with h | ⟨hz0, nm, hl1, hn1⟩
      · exact Or.inl h
      · obtain ⟨c6, hc6, hcl6⟩ := Cond.classLink_spec hown hl1 e.platform hpl
        obtain ⟨a8, b8, h1, h2, h3⟩ := hn1
        cases Option.some.inj (h1.symm.trans hcl)
        cases Option.some.inj (h2.symm.trans hc6)
        exact Or.inr ⟨hz0, _, hcl6, h3⟩) hx (Or.inr ⟨h0, c4, hcl5, hasg⟩)
  obtain ⟨t, a1, b1⟩ := kk (T.setVm vm') hT X'
  exact ⟨t, st.trans a1, b1⟩
end Rows
section Ends
variable {p : Program} {l : Launch} {e : Env} {R : Room} {s : State} {m : MethodId} {args : Array Value} {below : List Frame} {meth : Method} {c : Code} {H : Heap} {locs : List Loc} {cells slots : Nat} {Q : State → Prop}
variable {mc ms : Nat} {free : Addr → Prop} {A0 A1 : Nat → Prop} {H0 : Heap} {a : Array Value} {ls : Array Slot} {st0 rest : List Value}
variable {Qc : Array Value → State → Outcome → State → Prop} {XC : String → State → State → Prop}
/-- what a body that may throw owes at its end -/
def vx_MQ (below : List Frame) (Qc : Array Value → State → Outcome → State → Prop) (XC : String → State → State → Prop) (a : Array Value) (s : State) (mc ms : Nat) (free : Addr → Prop) : State → Prop := fun t =>
  ∃ o, t.status = .running ∧ Ended t below o ∧ vx_Q Qc XC mc ms free a s o t
theorem vx_ret {g : JFrame} {mc ms : Nat} (k : W p l e R s m args below meth c H locs cells slots (MQ below Qc args s mc ms free) g) : W p l e R s m args below meth c H locs cells slots (vx_MQ below Qc XC args s mc ms free) g := by
  intro T hT X
  obtain ⟨t, a1, o, b1, b2, b3, b4⟩ := k T hT X
  exact ⟨t, a1, o, b1, b2, Or.inl ⟨b3, b4⟩⟩
/-- not caught here: it goes on to the caller -/
theorem vx_widen {g : JFrame} {q : Addr} {k n : Nat} (h1 : cells ≤ k) (h2 : slots ≤ n) (kk : vx_W p l e R s m args below meth c H locs k n Q g q) : vx_W p l e R s m args below meth c H locs cells slots Q g q := fun T hT X => kk T hT (stand_widen X h1 h2)
theorem vx_out {pc : Nat} {E : String} {ce : Cell} {q : Addr} {mc ms : Nat} (hout : ∀ x ∈ c.exceptionTable.toList, covers x pc = false) (hlocks : meth.locks = false) (hcell : H[q]? = some ce) (hv : ce.vm = .none) (hcl : s.vm.findClass E = some ce.cls)
    (hx : ∀ t : State, t.heap = H → s.vm.Alike t.vm → XC E s t) (hf : ∀ z ∈ locs, free z.base) (hc : cells ≤ mc) (hs : slots ≤ ms) :
    vx_W p l e R s m args below meth c H locs cells slots (vx_MQ below Qc XC args s mc ms free) (F0 m pc ls rest) q := by
  intro T hT X
  obtain ⟨st1, hrun, hend, hW, hsm⟩ := X.leaveThrown q (g := F0 m pc ls rest) rfl rfl rfl hout hlocks
  have hcell9 : (T.setFrames (.throwing q :: below)).heap[q]? = some ce := by
    show T.heap[q]? = some ce
    rw [hT]; exact hcell
  exact ⟨_, st1, .threw q, hrun, hend, Or.inr ⟨q, rfl, E, ce, locs, hx _ hT hW.alike, hcell9, hv, hcl, hW, hsm.mono hc hs, hf⟩⟩
theorem vx_frame {U : State} {k n : Nat} (h : s.sameButNew ({ U with vm := s.vm } : State) locs k n) : s.heap.size ≤ U.heap.size ∧ ∀ q : Nat, q < s.heap.size → (∀ z ∈ locs, z.base ≠ q) → U.heap[q]? = s.heap[q]? := by
  obtain ⟨-, h2, -, -, -, h6⟩ := h
  refine ⟨h2, fun q hq hz => ?_⟩
  obtain ⟨c9, e1, e2, e3, e4⟩ := h6 q _ (Array.getElem?_eq_getElem hq)
  have hs : c9.slots = (s.heap[q]).slots := Array.ext_getElem? fun i => e4 i fun hm => hz _ hm rfl
  have h9 : c9 = s.heap[q] := by
    rw [hs] at e2
    exact e2
  have e5 : U.heap[q]? = some c9 := e1
  rw [e5, h9, Array.getElem?_eq_getElem hq]
/-- the words of a throw but the four that speak of the heap -/
def vx_no (w : Cond) : Bool := decide (w ≠ .isRef (.static Bundle.tN "UNASSIGNED_STACK" Bundle.steD)) && decide (w ≠ .isRef (.static Bundle.tN "SUPPRESSED_SENTINEL" Bundle.listD)) && decide (w ≠ .laysStatic Bundle.tN "UNASSIGNED_STACK" Bundle.steD) && decide (w ≠ .laysStatic Bundle.tN "SUPPRESSED_SENTINEL" Bundle.listD)
def vx_at0 (own : String) (ic : Nat) (X : String) (names : List String) : List Cond := (Bundle.ownAtoms0 own ic X names).filter vx_no
def vx_atS (own : String) (ic : Nat) (X : String) (names : List String) : List Cond := (Bundle.ownAtoms own ic X names).filter vx_no
/-- a word that the tables alone decide, or a good one -/
def vx_ot (w : Cond) : Bool := w.onTables || goodWord w
theorem vx_ot_at {args a' : Array Value} {s U : State} {w : Cond} (hW : s.WarmedH U.vm) (hvm : s.vm = U.vm) (hg : vx_ot w = true) (h : w.before args s = true) : w.before a' U = true := by
  simp only [vx_ot, Bool.or_eq_true] at hg
  rcases hg with hg | hg
  · exact va_tabs hg hvm h
  · exact word_at hW (good_of_word hg) h
/-- a list's words: the good ones out of the method's own list, the others by premises of their own -/
theorem vx_hat {args : Array Value} {s : State} {L B : List Cond} (h1 : ∀ w ∈ L.filter goodWord, w.before args s = true) (h2 : ∀ w ∈ L.filter (fun w => !goodWord w), w ∈ B) (h3 : ∀ w ∈ B, w.before args s = true) : ∀ w ∈ L, w.before args s = true := by
  intro w hw
  by_cases g : goodWord w = true
  · exact h1 w (List.mem_filter.mpr ⟨hw, g⟩)
  · refine h3 w (h2 w (List.mem_filter.mpr ⟨hw, ?_⟩))
    show (!goodWord w) = true
    cases hgw : goodWord w
    · rfl
    · exact absurd hgw g
theorem vx_c {args : Array Value} {s : State} {w : Cond} {B : List Cond} (h : w.before args s = true) (t : ∀ w ∈ B, w.before args s = true) : ∀ w' ∈ w :: B, w'.before args s = true := fun w' h' => (List.mem_cons.mp h').elim (fun e => by rw [e]; exact h) (t w')
theorem vx_n {args : Array Value} {s : State} : ∀ w ∈ ([] : List Cond), w.before args s = true := fun _ h => nomatch h
theorem vx_own {args : Array Value} {s : State} {L : List Cond} (h1 : ∀ w ∈ L.filter vx_no, w.before args s = true)
    (hU : (Cond.isRef (.static Bundle.tN "UNASSIGNED_STACK" Bundle.steD)).before args s = true) (hN : (Cond.isRef (.static Bundle.tN "SUPPRESSED_SENTINEL" Bundle.listD)).before args s = true)
    (lU : (Cond.laysStatic Bundle.tN "UNASSIGNED_STACK" Bundle.steD).before args s = true) (lN : (Cond.laysStatic Bundle.tN "SUPPRESSED_SENTINEL" Bundle.listD).before args s = true) : ∀ w ∈ L, w.before args s = true := by
  intro w hw
  by_cases e1 : w = .isRef (.static Bundle.tN "UNASSIGNED_STACK" Bundle.steD)
  · rw [e1]; exact hU
  · by_cases e2 : w = .isRef (.static Bundle.tN "SUPPRESSED_SENTINEL" Bundle.listD)
    · rw [e2]; exact hN
    · by_cases e3 : w = .laysStatic Bundle.tN "UNASSIGNED_STACK" Bundle.steD
      · rw [e3]; exact lU
      · by_cases e4 : w = .laysStatic Bundle.tN "SUPPRESSED_SENTINEL" Bundle.listD
        · rw [e4]; exact lN
        · exact h1 w (List.mem_filter.mpr ⟨hw, by unfold vx_no; rw [decide_eq_true e1, decide_eq_true e2, decide_eq_true e3, decide_eq_true e4]; rfl⟩)
/-- where a static field lies, its class's statics cell in H -/
def vx_L (C n d : String) (A : Nat → Prop) (U : State) (H : Heap) : Prop := ∃ (c : ClassId) (k : Class) (i : Nat) (f : Field) (a : Nat) (cell : Cell), U.vm.findClass C = some c ∧ U.fieldFound? C n d = some (c, k, i, f) ∧ f.isStatic = true ∧ k.statics = some a ∧ H[a]? = some cell ∧ cell.vm.isStatics = true ∧ cell.cls = c ∧ f.slot < cell.slots.size ∧ k.staticTypes[f.slot]? = some f.type ∧ ¬ A a
theorem vx_L.moved {C n d : String} {A : Nat → Prop} {u U : State} {H : Heap} (hvm : u.vm.Alike U.vm) (h : vx_L C n d A u H) : vx_L C n d A U H := by
  obtain ⟨c, k, i, f, a, cell, h1, h2, h3, h4, h5, h6, h7, h8, h9, h10⟩ := h
  obtain ⟨k', hi', he⟩ := State.fieldFound?_setVm hvm h2
  exact ⟨c, k', i, f, a, cell, by rw [hvm.findClass]; exact h1, hi', h3, by rw [he]; exact h4, h5, h6, h7, h8, by rw [he]; exact h9, h10⟩
theorem vx_L.kept {C n d : String} {A : Nat → Prop} {U : State} {H H1 : Heap} (h : vx_L C n d A U H) (hq : ∀ a : Nat, a < H.size → ¬ A a → H1[a]? = H[a]?) : vx_L C n d A U H1 := by
  obtain ⟨c, k, i, f, a, cell, h1, h2, h3, h4, h5, h6, h7, h8, h9, h10⟩ := h
  exact ⟨c, k, i, f, a, cell, h1, h2, h3, h4, by rw [hq a (Array.getElem?_eq_some_iff.mp h5).1 h10]; exact h5, h6, h7, h8, h9, h10⟩
theorem vx_L.narrow {C n d : String} {A B : Nat → Prop} {U : State} {H : Heap} (h : vx_L C n d A U H) (hAB : ∀ q, B q → A q) : vx_L C n d B U H := by
  obtain ⟨c, k, i, f, a, cell, h1, h2, h3, h4, h5, h6, h7, h8, h9, h10⟩ := h
  exact ⟨c, k, i, f, a, cell, h1, h2, h3, h4, h5, h6, h7, h8, h9, fun z => h10 (hAB _ z)⟩
theorem vx_L.word {C n d : String} {A : Nat → Prop} {s : State} {args : Array Value} (h : vx_L C n d A s s.heap) : (Cond.laysStatic C n d).before args s = true := by
  obtain ⟨c, k, i, f, a, cell, h1, h2, h3, h4, h5, h6, h7, h8, h9, -⟩ := h
  show (Cond.laysStatic C n d).holds args s none s [] = true
  exact Cond.laysStatic_of h1 h2 h3 h4 h5 h6 h7 h8 h9
/-- .. and what it holds: null or some reference -/
def vx_Zq (C n d : String) (A : Nat → Prop) (U : State) (H : Heap) : Prop := va_Zq C n d A U H ∧ vx_L C n d A U H
theorem vx_Zq.moved {C n d : String} {A : Nat → Prop} {u U : State} {H : Heap} (hvm : u.vm.Alike U.vm) (h : vx_Zq C n d A u H) : vx_Zq C n d A U H := ⟨va_Zq.moved hvm h.1, vx_L.moved hvm h.2⟩
theorem vx_Zq.kept {C n d : String} {A : Nat → Prop} {U : State} {H H1 : Heap} (h : vx_Zq C n d A U H) (hq : ∀ a : Nat, a < H.size → ¬ A a → H1[a]? = H[a]?) : vx_Zq C n d A U H1 := ⟨va_Zq.kept h.1 hq, vx_L.kept h.2 hq⟩
theorem vx_Zq.narrow {C n d : String} {A B : Nat → Prop} {U : State} {H : Heap} (h : vx_Zq C n d A U H) (hAB : ∀ q, B q → A q) : vx_Zq C n d B U H := ⟨va_Zq.narrow h.1 hAB, vx_L.narrow h.2 hAB⟩
theorem vx_Zqof {args : Array Value} {s : State} {C n d : String} {A : Nat → Prop} (hl : (Cond.laysStatic C n d).before args s = true) (hini : (Cond.initialized C).before args s = true) (h : (Cond.isRef (.static C n d)).before args s = true) (hA : ∀ a : Nat, a < s.heap.size → ¬ A a) : vx_Zq C n d A s s.heap := by
  refine ⟨va_Zqof hl hini h hA, ?_⟩
  obtain ⟨c, k, i, f, a, cell, h1, h2, h3, h4, h5, h6, h7, h8, h9⟩ := Cond.laysStatic_spec hl
  exact ⟨c, k, i, f, a, cell, h1, h2, h3, h4, h5, h6, h7, h8, h9, hA a (Array.getElem?_eq_some_iff.mp h5).1⟩
theorem vx_isRef {C n d : String} {v : Value} {A : Nat → Prop} {s : State} {args : Array Value} (h : va_Z C n d v A s s.heap) (hv : v.isRef = true) : (Cond.isRef (.static C n d)).before args s = true := by
  obtain ⟨cf, kf, fi, f, a, cell, h1, h2, h3, h4, h5, h6, h7, -⟩ := h
  have he : (Term.static C n d).eval args s none [] s = some v := by
    simp [Term.eval, State.fieldNamed?, h1, h2, h4, h5, h6, h7]
  simp only [Cond.before, Cond.holds, Cond.value, he]
  cases v <;> simp_all [Value.isRef]
theorem vx_isRefq {C n d : String} {A : Nat → Prop} {s : State} {args : Array Value} (h : va_Zq C n d A s s.heap) : (Cond.isRef (.static C n d)).before args s = true := by
  rcases h with h | ⟨t, h⟩
  · exact vx_isRef h rfl
  · exact vx_isRef h rfl
/-- the same frame, seen from here: as if the method were called anew in this heap -/
theorem vx_rebase {T : State} (X : Stand p l e R s m args below meth c T locs cells slots) {R' : Room} (hf : R'.frames ≤ R.frames) (hl : R'.locals ≤ R.locals) (hc : cells + R'.cells ≤ R.cells) (hs : slots + R'.slots ≤ R.slots) :
    Stand p l e R' ((T.setVm s.vm).setFrames (.invoking m args :: below)) m args below meth c T [] 0 0 := by
  have htop : (T.setVm s.vm).topJava?.isSome := X.here.top
  have hF : ((T.setVm s.vm).setFrames (.invoking m args :: below)).frames = .invoking m args :: below := State.frames_setFrames _ (State.cur_lt_of_top htop)
  obtain ⟨g₀, hg0⟩ := Option.isSome_iff_exists.mp htop
  obtain ⟨r, hr⟩ := State.topJava?_eq_some.mp hg0
  have hl9 : e.platform.stackLimits (T.setVm s.vm).me = e.platform.stackLimits s.me := X.limits
  have hb9 : (T.setVm s.vm).me.stackBytes = s.me.stackBytes := X.bytes
  refine ⟨X.admits, X.cas, X.clock, hF, ?_, X.hears, X.method, X.code, X.here, X.tail, X.warmed, ?_, ?_, ?_⟩
  · have h := X.room
    have hU : ((T.setVm s.vm).setFrames (.invoking m args :: below)).localsInUse = s.localsInUse := by
      rw [State.localsInUse_invoking hF (meth := meth) (c := c) X.method X.code, State.localsInUse_invoking X.frames X.method X.code]
    simp only [State.hasRoom, Bool.and_eq_true, decide_eq_true_eq] at h ⊢
    obtain ⟨⟨⟨⟨h1, h2, h3, h4, h5, h6⟩, h7⟩, h8⟩, h9⟩ := h
    rw [X.frames, List.length_cons] at h2 h3
    have q1 := X.heapSize
    have q2 := X.used
    simp only [hF, hU, List.length_cons, State.stackLimits_setFrames, State.stackBytes_setFrames, hl9, hb9]
    refine ⟨⟨⟨⟨by omega, by omega, by omega, by omega, by omega, h6⟩, ?_⟩, ?_⟩, X.book⟩
    · show T.heap.size + R'.cells ≤ e.platform.maxCells
      omega
    · show T.slotsUsed + R'.slots ≤ e.platform.maxSlots
      omega
  · rw [State.stackLimits_setFrames]; rfl
  · rw [State.stackBytes_setFrames]; rfl
  · refine ⟨?_, Nat.le_refl _, Nat.le_refl _, ?_, ?_, fun a c9 h9 => ⟨c9, h9, rfl, rfl, fun _ _ => rfl⟩⟩
    · obtain ⟨t, ht, -⟩ := State.frames_cons hr
      show T.setVm s.vm = { ((T.setVm s.vm).setFrames (.invoking m args :: below)).setFrames (T.setVm s.vm).frames with heap := T.heap, slotsUsed := T.slotsUsed }
      rw [State.setFrames_setFrames, State.setFrames_self ht]
      rfl
    · show T.slotsUsed = T.slotsUsed + ((T.heap.toList.drop T.heap.size).map (·.slots.size)).sum
      rw [List.drop_eq_nil_of_le (Nat.le_of_eq Array.length_toList)]
      rfl
    · show ((T.heap.toList.drop T.heap.size).map (·.slots.size)).sum ≤ 0
      rw [List.drop_eq_nil_of_le (Nat.le_of_eq Array.length_toList)]
      exact Nat.le_refl _
/-- 'throw new E()': new; dup; invokespecial; athrow -/
theorem vx_throw0 {cc : ByteArray} {pc : Nat} (hexec : p.tables.exec = Jvm.exec) (hb : c.code = cc) (hl : l.stackTraces = false) {own cls : String} {names : List String} {ik ic mc ms : Nat} {A : Nat → Prop}
    (hown : s.vm.findClass own = some m.cls) (hcls : Bundle.fit cls = true) (hnames : ∀ n ∈ names, Bundle.fit n = true)
    (hk : (Cond.classLink own ik cls).before args s = true) (hini : (Cond.initialized cls).before args s = true) (hat : ∀ w ∈ vx_at0 own ic cls names, w.before args s = true)
    (hgood : ∀ w ∈ Cond.classLink own ik cls :: Cond.initialized cls :: vx_at0 own ic cls names, vx_ot w = true)
    (hU : vx_Zq Bundle.tN "UNASSIGNED_STACK" Bundle.steD A s s.heap) (hN : vx_Zq Bundle.tN "SUPPRESSED_SENTINEL" Bundle.listD A s s.heap) (hS : va_S A s.heap H locs) (hsize : ls.size = c.maxLocals)
    (d0 : decode cc pc = .ok (.new ik, 3)) (d3 : decode cc (pc + 3) = .ok (.dup, 1)) (d4 : decode cc (pc + 4) = .ok (.invokespecial ic, 3)) (d7 : decode cc (pc + 7) = .ok (.athrow, 1))
    (hout : ∀ x ∈ c.exceptionTable.toList, covers x (pc + 7) = false)
    (hRframes : names.length + 3 < R.frames) (hRlocals : (rest.map fun v => v.category).sum + (13 * (names.length + 1) + 42) ≤ R.locals) (hRcells : cells + 1 ≤ R.cells) (hRslots : slots + 6 ≤ R.slots) (hlocks : meth.locks = false)
    (hx : ∀ t : State, s.vm.Alike t.vm → H.size ≤ t.heap.size → (∀ q : Nat, q < H.size → t.heap[q]? = H[q]?) → XC cls s t)
    (hf : ∀ z ∈ locs, free z.base) (hc : cells + 1 ≤ mc) (hs : slots + 6 ≤ ms) :
    W p l e R s m args below meth c H locs cells slots (vx_MQ below Qc XC args s mc ms free) (F0 m pc ls rest) := by
  intro T hT X
  have htr : e.platform.stackTraces = false := (show e.platform.stackTraces = l.stackTraces by rw [X.admits.platform]).trans hl
  have Y := vx_rebase X (R' := { frames := R.frames, locals := R.locals, cells := 1, slots := 6 }) (Nat.le_refl _) (Nat.le_refl _) hRcells hRslots
  obtain ⟨s', hA⟩ : ∃ z, z = (T.setVm s.vm).setFrames (.invoking m args :: below) := ⟨_, rfl⟩
  rw [← hA] at Y
  have hvm : s'.vm = s.vm := by rw [hA]; rfl
  have hhp : s'.heap = H := by rw [hA]; exact hT
  have hW0 : s.WarmedH s'.vm := by rw [hvm]; exact State.WarmedH.refl s
  have hat' : ∀ w ∈ vx_at0 own ic cls names, w.before args s' = true := fun w hw => vx_ot_at hW0 hvm.symm (hgood w (List.mem_cons_of_mem _ (List.mem_cons_of_mem _ hw))) (hat w hw)
  have hk' : (Cond.classLink own ik cls).before args s' = true := vx_ot_at hW0 hvm.symm (hgood _ List.mem_cons_self) hk
  have hini' : (Cond.initialized cls).before args s' = true := vx_ot_at hW0 hvm.symm (hgood _ (List.mem_cons_of_mem _ List.mem_cons_self)) hini
  have hU' : vx_Zq Bundle.tN "UNASSIGNED_STACK" Bundle.steD A s' s'.heap := by rw [hhp]; exact vx_Zq.moved hW0.alike (hU.kept hS.2.1)
  have hN' : vx_Zq Bundle.tN "SUPPRESSED_SENTINEL" Bundle.listD A s' s'.heap := by rw [hhp]; exact vx_Zq.moved hW0.alike (hN.kept hS.2.1)
  have h : ∀ w ∈ Bundle.ownAtoms0 own ic cls names, w.before args s' = true := vx_own hat' (vx_isRefq hU'.1) (vx_isRefq hN'.1) hU'.2.word hN'.2.word
  have hown' : s'.vm.findClass own = some m.cls := by rw [hvm]; exact hown
  have hins : (Cond.instantiable cls 6).before args s' = true := h _ (by simp [Bundle.ownAtoms0])
  obtain ⟨vm₁, cX, kX, hfX, hkX, -, -, X₁, st1⟩ := Y.newCold hexec (own := own) (C := cls) (index := ik) (n := 6) hown' hk' hins hini'
    (g := F0 m pc ls rest) rfl (by rw [hb]; exact d0) (Nat.le_refl _) (Nat.le_refl _)
  generalize hT1 : (T.setVm vm₁).pushCell { cls := cX, slots := kX.instanceTypes.map defaultValue, vm := .none } = T1 at X₁ st1
  have hcat : (Value.ref T.heap.size).category = 1 := rfl
  have hcellA : T1.heap[T.heap.size]? = some (freshCell cX kX) := by rw [← hT1]; exact State.heap_pushCell_size _ _
  have d3' : decode c.code (pc + 3) = .ok (.dup, 1) := by rw [hb]; exact d3
  obtain ⟨U, hsteps, hrun, hend, hW, hsame, ce, hce, hO⟩ := X₁.ctorThrow0 hexec htr (own := own) (cls := cls) (names := names) (ic := ic) hown' hcls hnames h (fun x hx => nomatch hx) hfX hkX hcellA (by rw [hhp, hT]; exact Nat.le_refl _)
    (g := { method := m, pc := pc + 4, locals := ls, stack := .ref T.heap.size :: .ref T.heap.size :: rest, locked := none }) rfl hsize rfl rfl (rest := rest) rfl
    (by rw [hb]; exact d4) (by rw [hb]; exact d7) hout hRframes (by simp only [List.map_cons, List.sum_cons, hcat]; omega) hlocks
  obtain ⟨f1, f2⟩ := vx_frame hsame
  rw [hhp] at f1 f2
  have hWs : s.WarmedH U.vm := State.WarmedH.trans hW0 hW
  have hcl : s.vm.findClass cls = some ce.cls := by
    have h9 := hO.cls
    rw [hvm] at h9
    exact h9
  have hall : s.sameButNew ({ U with vm := s.vm } : State) locs mc ms := by
    subst hA
    obtain ⟨e1, e2⟩ := hsame
    rw [State.setFrames_setFrames] at e1
    have h2 : (T.setVm s.vm).sameButNew ({ U with vm := s.vm } : State) [] (0 + 1) (0 + 6) := ⟨e1, e2⟩
    have h3 := X.same.trans h2
    rw [List.append_nil] at h3
    exact h3.mono hc hs
  refine ⟨U, ?_, .threw T.heap.size, hrun, hend, Or.inr ⟨T.heap.size, rfl, cls, ce, locs, hx U hWs.alike f1 (fun q hq => f2 q hq (fun z hz => nomatch hz)), hce, hO.vm, hcl, hWs, hall, hf⟩⟩
  refine st1 _ ?_
  show Steps p.tables e below (T1.setTop { method := m, pc := pc + 3, locals := ls, stack := .ref T.heap.size :: rest, locked := none }) _
  jvm_step X₁.here [X₁.here.top, hexec, d3', Value.category]
  exact hsteps
/-- 'throw new E("text")': new; dup; ldc; invokespecial; athrow -/
theorem vx_throwS {cc : ByteArray} {pc : Nat} (hexec : p.tables.exec = Jvm.exec) (hb : c.code = cc) (hl : l.stackTraces = false) {own cls text : String} {names : List String} {ik is ic mc ms sa : Nat} {A : Nat → Prop}
    (hown : s.vm.findClass own = some m.cls) (hcls : Bundle.fit cls = true) (hnames : ∀ n ∈ names, Bundle.fit n = true)
    (hk : (Cond.classLink own ik cls).before args s = true) (hini : (Cond.initialized cls).before args s = true) (hstr : vk_R own is text sa s) (hat : ∀ w ∈ vx_atS own ic cls names, w.before args s = true)
    (hgood : ∀ w ∈ Cond.classLink own ik cls :: Cond.initialized cls :: vx_atS own ic cls names, vx_ot w = true)
    (hU : vx_Zq Bundle.tN "UNASSIGNED_STACK" Bundle.steD A s s.heap) (hN : vx_Zq Bundle.tN "SUPPRESSED_SENTINEL" Bundle.listD A s s.heap) (hS : va_S A s.heap H locs) (hsize : ls.size = c.maxLocals)
    (d0 : decode cc pc = .ok (.new ik, 3)) (d3 : decode cc (pc + 3) = .ok (.dup, 1)) (d4 : decode cc (pc + 4) = .ok (.ldc is, 2)) (d6 : decode cc (pc + 6) = .ok (.invokespecial ic, 3)) (d9 : decode cc (pc + 9) = .ok (.athrow, 1))
    (hout : ∀ x ∈ c.exceptionTable.toList, covers x (pc + 9) = false)
    (hRframes : names.length + 3 < R.frames) (hRlocals : (rest.map fun v => v.category).sum + (13 * (names.length + 1) + 43) ≤ R.locals) (hRcells : cells + 1 ≤ R.cells) (hRslots : slots + 6 ≤ R.slots) (hlocks : meth.locks = false)
    (hx : ∀ t : State, s.vm.Alike t.vm → H.size ≤ t.heap.size → (∀ q : Nat, q < H.size → t.heap[q]? = H[q]?) → XC cls s t)
    (hf : ∀ z ∈ locs, free z.base) (hc : cells + 1 ≤ mc) (hs : slots + 6 ≤ ms) :
    W p l e R s m args below meth c H locs cells slots (vx_MQ below Qc XC args s mc ms free) (F0 m pc ls rest) := by
  intro T hT X
  have htr : e.platform.stackTraces = false := (show e.platform.stackTraces = l.stackTraces by rw [X.admits.platform]).trans hl
  have Y := vx_rebase X (R' := { frames := R.frames, locals := R.locals, cells := 1, slots := 6 }) (Nat.le_refl _) (Nat.le_refl _) hRcells hRslots
  obtain ⟨s', hA⟩ : ∃ z, z = (T.setVm s.vm).setFrames (.invoking m args :: below) := ⟨_, rfl⟩
  rw [← hA] at Y
  have hvm : s'.vm = s.vm := by rw [hA]; rfl
  have hhp : s'.heap = H := by rw [hA]; exact hT
  have hW0 : s.WarmedH s'.vm := by rw [hvm]; exact State.WarmedH.refl s
  have hat' : ∀ w ∈ vx_atS own ic cls names, w.before args s' = true := fun w hw => vx_ot_at hW0 hvm.symm (hgood w (List.mem_cons_of_mem _ (List.mem_cons_of_mem _ hw))) (hat w hw)
  have hk' : (Cond.classLink own ik cls).before args s' = true := vx_ot_at hW0 hvm.symm (hgood _ List.mem_cons_self) hk
  have hini' : (Cond.initialized cls).before args s' = true := vx_ot_at hW0 hvm.symm (hgood _ (List.mem_cons_of_mem _ List.mem_cons_self)) hini
  have hU' : vx_Zq Bundle.tN "UNASSIGNED_STACK" Bundle.steD A s' s'.heap := by rw [hhp]; exact vx_Zq.moved hW0.alike (hU.kept hS.2.1)
  have hN' : vx_Zq Bundle.tN "SUPPRESSED_SENTINEL" Bundle.listD A s' s'.heap := by rw [hhp]; exact vx_Zq.moved hW0.alike (hN.kept hS.2.1)
  have h : ∀ w ∈ Bundle.ownAtoms own ic cls names, w.before args s' = true := vx_own hat' (vx_isRefq hU'.1) (vx_isRefq hN'.1) hU'.2.word hN'.2.word
  have hown' : s'.vm.findClass own = some m.cls := by rw [hvm]; exact hown
  have hins : (Cond.instantiable cls 6).before args s' = true := h _ (by simp [Bundle.ownAtoms])
  obtain ⟨vm₁, cX, kX, hfX, hkX, -, -, X₁, st1⟩ := Y.newCold hexec (own := own) (C := cls) (index := ik) (n := 6) hown' hk' hins hini'
    (g := F0 m pc ls rest) rfl (by rw [hb]; exact d0) (Nat.le_refl _) (Nat.le_refl _)
  generalize hT1 : (T.setVm vm₁).pushCell { cls := cX, slots := kX.instanceTypes.map defaultValue, vm := .none } = T1 at X₁ st1
  have hcat : (Value.ref T.heap.size).category = 1 := rfl
  have hcellA : T1.heap[T.heap.size]? = some (freshCell cX kX) := by rw [← hT1]; exact State.heap_pushCell_size _ _
  have d3' : decode c.code (pc + 3) = .ok (.dup, 1) := by rw [hb]; exact d3
  have d4' : decode c.code (pc + 4) = .ok (.ldc is, 2) := by rw [hb]; exact d4
  have hstr' : vk_R own is text sa s' := vk_R.warm hW0 hstr
  obtain ⟨U, hsteps, hrun, hend, hW, hsame, ce, hce, hO⟩ := X₁.ctorThrowS hexec htr (own := own) (cls := cls) (names := names) (ic := ic) hown' hcls hnames h (fun x hx => nomatch hx) hfX hkX hcellA (by rw [hhp, hT]; exact Nat.le_refl _) (msg := .ref sa) rfl
    (g := { method := m, pc := pc + 6, locals := ls, stack := .ref sa :: .ref T.heap.size :: .ref T.heap.size :: rest, locked := none }) rfl hsize rfl rfl (rest := rest) rfl
    (by rw [hb]; exact d6) (by rw [hb]; exact d9) hout hRframes (by simp only [List.map_cons, List.sum_cons, hcat]; omega) hlocks
  obtain ⟨f1, f2⟩ := vx_frame hsame
  rw [hhp] at f1 f2
  have hWs : s.WarmedH U.vm := State.WarmedH.trans hW0 hW
  have hcl : s.vm.findClass cls = some ce.cls := by
    have h9 := hO.cls
    rw [hvm] at h9
    exact h9
  have hall : s.sameButNew ({ U with vm := s.vm } : State) locs mc ms := by
    subst hA
    obtain ⟨e1, e2⟩ := hsame
    rw [State.setFrames_setFrames] at e1
    have h2 : (T.setVm s.vm).sameButNew ({ U with vm := s.vm } : State) [] (0 + 1) (0 + 6) := ⟨e1, e2⟩
    have h3 := X.same.trans h2
    rw [List.append_nil] at h3
    exact h3.mono hc hs
  refine ⟨U, ?_, .threw T.heap.size, hrun, hend, Or.inr ⟨T.heap.size, rfl, cls, ce, locs, hx U hWs.alike f1 (fun q hq => f2 q hq (fun z hz => nomatch hz)), hce, hO.vm, hcl, hWs, hall, hf⟩⟩
  refine st1 _ ?_
  show Steps p.tables e below (T1.setTop { method := m, pc := pc + 3, locals := ls, stack := .ref T.heap.size :: rest, locked := none }) _
  jvm_step X₁.here [X₁.here.top, hexec, d3', Value.category]
  exact X₁.ldcString hexec (own := own) (text := text) (index := is) (a := sa) hown' hstr'.1 hstr'.2
    (g := { method := m, pc := pc + 4, locals := ls, stack := .ref T.heap.size :: .ref T.heap.size :: rest, locked := none }) rfl d4' _ hsteps
/-- 'throw new E("text")', the text by a wide index -/
theorem vx_throwSW {cc : ByteArray} {pc : Nat} (hexec : p.tables.exec = Jvm.exec) (hb : c.code = cc) (hl : l.stackTraces = false) {own cls text : String} {names : List String} {ik is ic mc ms sa : Nat} {A : Nat → Prop}
    (hown : s.vm.findClass own = some m.cls) (hcls : Bundle.fit cls = true) (hnames : ∀ n ∈ names, Bundle.fit n = true)
    (hk : (Cond.classLink own ik cls).before args s = true) (hini : (Cond.initialized cls).before args s = true) (hstr : vk_R own is text sa s) (hat : ∀ w ∈ vx_atS own ic cls names, w.before args s = true)
    (hgood : ∀ w ∈ Cond.classLink own ik cls :: Cond.initialized cls :: vx_atS own ic cls names, vx_ot w = true)
    (hU : vx_Zq Bundle.tN "UNASSIGNED_STACK" Bundle.steD A s s.heap) (hN : vx_Zq Bundle.tN "SUPPRESSED_SENTINEL" Bundle.listD A s s.heap) (hS : va_S A s.heap H locs) (hsize : ls.size = c.maxLocals)
    (d0 : decode cc pc = .ok (.new ik, 3)) (d3 : decode cc (pc + 3) = .ok (.dup, 1)) (d4 : decode cc (pc + 4) = .ok (.ldc_w is, 3)) (d7 : decode cc (pc + 7) = .ok (.invokespecial ic, 3)) (d10 : decode cc (pc + 10) = .ok (.athrow, 1))
    (hout : ∀ x ∈ c.exceptionTable.toList, covers x (pc + 10) = false)
    (hRframes : names.length + 3 < R.frames) (hRlocals : (rest.map fun v => v.category).sum + (13 * (names.length + 1) + 43) ≤ R.locals) (hRcells : cells + 1 ≤ R.cells) (hRslots : slots + 6 ≤ R.slots) (hlocks : meth.locks = false)
    (hx : ∀ t : State, s.vm.Alike t.vm → H.size ≤ t.heap.size → (∀ q : Nat, q < H.size → t.heap[q]? = H[q]?) → XC cls s t)
    (hf : ∀ z ∈ locs, free z.base) (hc : cells + 1 ≤ mc) (hs : slots + 6 ≤ ms) :
    W p l e R s m args below meth c H locs cells slots (vx_MQ below Qc XC args s mc ms free) (F0 m pc ls rest) := by
  intro T hT X
  have htr : e.platform.stackTraces = false := (show e.platform.stackTraces = l.stackTraces by rw [X.admits.platform]).trans hl
  have Y := vx_rebase X (R' := { frames := R.frames, locals := R.locals, cells := 1, slots := 6 }) (Nat.le_refl _) (Nat.le_refl _) hRcells hRslots
  obtain ⟨s', hA⟩ : ∃ z, z = (T.setVm s.vm).setFrames (.invoking m args :: below) := ⟨_, rfl⟩
  rw [← hA] at Y
  have hvm : s'.vm = s.vm := by rw [hA]; rfl
  have hhp : s'.heap = H := by rw [hA]; exact hT
  have hW0 : s.WarmedH s'.vm := by rw [hvm]; exact State.WarmedH.refl s
  have hat' : ∀ w ∈ vx_atS own ic cls names, w.before args s' = true := fun w hw => vx_ot_at hW0 hvm.symm (hgood w (List.mem_cons_of_mem _ (List.mem_cons_of_mem _ hw))) (hat w hw)
  have hk' : (Cond.classLink own ik cls).before args s' = true := vx_ot_at hW0 hvm.symm (hgood _ List.mem_cons_self) hk
  have hini' : (Cond.initialized cls).before args s' = true := vx_ot_at hW0 hvm.symm (hgood _ (List.mem_cons_of_mem _ List.mem_cons_self)) hini
  have hU' : vx_Zq Bundle.tN "UNASSIGNED_STACK" Bundle.steD A s' s'.heap := by rw [hhp]; exact vx_Zq.moved hW0.alike (hU.kept hS.2.1)
  have hN' : vx_Zq Bundle.tN "SUPPRESSED_SENTINEL" Bundle.listD A s' s'.heap := by rw [hhp]; exact vx_Zq.moved hW0.alike (hN.kept hS.2.1)
  have h : ∀ w ∈ Bundle.ownAtoms own ic cls names, w.before args s' = true := vx_own hat' (vx_isRefq hU'.1) (vx_isRefq hN'.1) hU'.2.word hN'.2.word
  have hown' : s'.vm.findClass own = some m.cls := by rw [hvm]; exact hown
  have hins : (Cond.instantiable cls 6).before args s' = true := h _ (by simp [Bundle.ownAtoms])
  obtain ⟨vm₁, cX, kX, hfX, hkX, -, -, X₁, st1⟩ := Y.newCold hexec (own := own) (C := cls) (index := ik) (n := 6) hown' hk' hins hini'
    (g := F0 m pc ls rest) rfl (by rw [hb]; exact d0) (Nat.le_refl _) (Nat.le_refl _)
  generalize hT1 : (T.setVm vm₁).pushCell { cls := cX, slots := kX.instanceTypes.map defaultValue, vm := .none } = T1 at X₁ st1
  have hcat : (Value.ref T.heap.size).category = 1 := rfl
  have hcellA : T1.heap[T.heap.size]? = some (freshCell cX kX) := by rw [← hT1]; exact State.heap_pushCell_size _ _
  have d3' : decode c.code (pc + 3) = .ok (.dup, 1) := by rw [hb]; exact d3
  have d4' : decode c.code (pc + 4) = .ok (.ldc_w is, 3) := by rw [hb]; exact d4
  have hstr' : vk_R own is text sa s' := vk_R.warm hW0 hstr
  obtain ⟨U, hsteps, hrun, hend, hW, hsame, ce, hce, hO⟩ := X₁.ctorThrowS hexec htr (own := own) (cls := cls) (names := names) (ic := ic) hown' hcls hnames h (fun x hx => nomatch hx) hfX hkX hcellA (by rw [hhp, hT]; exact Nat.le_refl _) (msg := .ref sa) rfl
    (g := { method := m, pc := pc + 7, locals := ls, stack := .ref sa :: .ref T.heap.size :: .ref T.heap.size :: rest, locked := none }) rfl hsize rfl rfl (rest := rest) rfl
    (by rw [hb]; exact d7) (by rw [hb]; exact d10) hout hRframes (by simp only [List.map_cons, List.sum_cons, hcat]; omega) hlocks
  obtain ⟨f1, f2⟩ := vx_frame hsame
  rw [hhp] at f1 f2
  have hWs : s.WarmedH U.vm := State.WarmedH.trans hW0 hW
  have hcl : s.vm.findClass cls = some ce.cls := by
    have h9 := hO.cls
    rw [hvm] at h9
    exact h9
  have hall : s.sameButNew ({ U with vm := s.vm } : State) locs mc ms := by
    subst hA
    obtain ⟨e1, e2⟩ := hsame
    rw [State.setFrames_setFrames] at e1
    have h2 : (T.setVm s.vm).sameButNew ({ U with vm := s.vm } : State) [] (0 + 1) (0 + 6) := ⟨e1, e2⟩
    have h3 := X.same.trans h2
    rw [List.append_nil] at h3
    exact h3.mono hc hs
  refine ⟨U, ?_, .threw T.heap.size, hrun, hend, Or.inr ⟨T.heap.size, rfl, cls, ce, locs, hx U hWs.alike f1 (fun q hq => f2 q hq (fun z hz => nomatch hz)), hce, hO.vm, hcl, hWs, hall, hf⟩⟩
  refine st1 _ ?_
  show Steps p.tables e below (T1.setTop { method := m, pc := pc + 3, locals := ls, stack := .ref T.heap.size :: rest, locked := none }) _
  jvm_step X₁.here [X₁.here.top, hexec, d3', Value.category]
  exact X₁.ldcStringW hexec (own := own) (text := text) (index := is) (a := sa) hown' hstr'.1 hstr'.2
    (g := { method := m, pc := pc + 4, locals := ls, stack := .ref T.heap.size :: .ref T.heap.size :: rest, locked := none }) rfl d4' _ hsteps
end Ends
section Bodies
variable {l : Launch}
theorem vx_ofW {y : MethodName} {ws ws' : List Cond} {rm : Room} {Pc : Array Value → State → Prop} {Qc : Array Value → State → Outcome → State → Prop} {XC : String → State → State → Prop} {mc ms : Nat} {free : Addr → Prop} {cc : ByteArray} {maxL : Nat} {ret : Option FieldType}
    (hy : plainName y.cls = true) (hw : ws = Cond.code y cc maxL ret :: ws')
    (body : ∀ p e s m args below meth c s₁, BodyLoose p l y (headSpec ws rm) cc maxL ret e s m args below meth c s₁ → c.maxLocals = maxL → (∀ x ∈ c.exceptionTable.toList, False) → Pc args s →
      W p l e (headSpec ws rm).room s m args below meth c s.heap [] 0 0 (vx_MQ below Qc XC args s mc ms free) (entryFrame m args maxL)) : vx_Met l y ws rm Pc Qc XC mc ms free := by
  refine MetFree.of_bodyS (code := cc) (maxLocals := maxL) (ret := ret) hy ?_ ?_
  · intro args s m h hn
    obtain ⟨meth, c, h1, h2, h3, h4, h5, h6, -, -⟩ := Cond.code_spec hn (atoms_spec (ws := ws) h _ (by rw [hw]; exact List.mem_cons_self))
    exact ⟨meth, c, h1, h2, h3, h4, h5, h6⟩
  · intro p e s m args below meth c s₁ B hml hP _
    have hh0 : s₁.heap = s.heap := by rw [B.state]; rfl
    have ht : ∀ x ∈ c.exceptionTable.toList, False := by
      obtain ⟨meth9, c9, h1, h2, -, -, -, -, h7, -⟩ := Cond.code_spec B.named (atoms_spec (ws := ws) B.pre _ (by rw [hw]; exact List.mem_cons_self))
      cases Option.some.inj (h1.symm.trans B.method)
      cases Option.some.inj (h2.symm.trans (Stand.of_body B).code)
      intro x hx
      rw [Array.isEmpty_iff.mp h7] at hx
      cases hx
    obtain ⟨t, a1, o, b1, b2, b3⟩ := body p e s m args below meth c s₁ B hml ht hP s₁ hh0 (Stand.of_body B)
    exact ⟨t, o, a1, b1, b2, b3⟩
/-- the table of a body with handlers -/
theorem vx_table {p : Program} {x y : MethodName} {S : Spec} {cc bytes : ByteArray} {maxL maxL' : Nat} {ret ret' : Option FieldType} {e : Env} {s s₁ : State} {m : MethodId} {args : Array Value} {below : List Frame} {meth : Method} {c : Code} {hh : List (Nat × Nat × Nat × Nat)}
    (B : BodyLoose p l y S cc maxL ret e s m args below meth c s₁) (h : (Cond.codeWith y bytes maxL' ret' hh).before args s = true) : c.exceptionTable.toList = tableOf hh := by
  obtain ⟨m9, meth9, c9, hn9, h1, h2, -, -, h6, -⟩ := Cond.codeWith_spec h
  cases Option.some.inj (hn9.symm.trans B.named)
  cases Option.some.inj (h1.symm.trans B.method)
  cases Option.some.inj (h2.symm.trans (Stand.of_body B).code)
  rw [← h6, table_eq]
end Bodies
end VXA
/-! ===== END ===== -/
/-! ===== BEGIN a static call of a method with an exception table ===== -/
section VXS
variable {p : Program} {l : Launch} {e : Env} {R : Room} {s : State} {m : MethodId} {args : Array Value} {below : List Frame} {meth : Method} {c : Code} {T : State} {H : Heap} {locs : List Loc} {cells slots : Nat}
abbrev vx_CSW (R : Room) (s : State) (args : Array Value) (own : String) (index : Nat) (y : MethodName) (bytes : ByteArray) (maxL : Nat) (ret : Option FieldType) (hh : List (Nat × Nat × Nat × Nat)) (ws : List Cond) (rm : Room) (mc ms n : Nat) : Prop :=
  (rm.cells = mc ∧ rm.slots = ms ∧ rm.frames + 1 ≤ R.frames ∧ 8 + (maxL + 11) + rm.locals ≤ R.locals ∧ (∀ w ∈ ws, ∀ (a' : Array Value) (U : State), s.WarmedH U.vm → w.before a' U = true) ∧ Cond.codeWith y bytes maxL ret hh ∈ ws) ∧
  (Cond.codeWith y bytes maxL ret hh).before args s = true ∧ (Cond.initialized y.cls).before args s = true ∧ (y.cls ≠ "java/lang/invoke/MethodHandle" ∧ y.cls ≠ "java/lang/invoke/VarHandle") ∧
  (∀ sig, parseMethodDescriptor y.desc = some sig → n = sig.parameters.length) ∧ (Cond.methodLink own index y).before args s = true ∧ (Cond.static y).before args s = true
theorem vx_cwSW {own : String} {index maxL mc ms : Nat} {y : MethodName} {bytes : ByteArray} {ret : Option FieldType} {hh : List (Nat × Nat × Nat × Nat)} {Ts ws ws' : List Cond} {rm : Room} (n : Nat) (ht : ∀ w ∈ Ts, w.before args s = true) (hT : GoodIn Ts (va_wsS own index y ws)) (hw : ws = Cond.codeWith y bytes maxL ret hh :: ws') (hrc : rm.cells = mc) (hrs : rm.slots = ms)
    (hd : y.cls ≠ "java/lang/invoke/MethodHandle" ∧ y.cls ≠ "java/lang/invoke/VarHandle" ∧ (parseMethodDescriptor y.desc).map (fun d => d.parameters.length) = some n) (hR : rm.frames + 1 ≤ R.frames ∧ 8 + (maxL + 11) + rm.locals ≤ R.locals) :
    vx_CSW R s args own index y bytes maxL ret hh ws rm mc ms n := by
  have ok : ∀ w ∈ va_wsS own index y ws, w.before args s = true := fun w h => ht w (hT w h).1
  have hG : GoodIn Ts ws := fun w h => hT w (by unfold va_wsS; exact List.mem_append_right _ h)
  have hc : Cond.codeWith y bytes maxL ret hh ∈ ws := by rw [hw]; exact List.mem_cons_self
  refine ⟨⟨hrc, hrs, hR.1, hR.2, pay_in ht hG, hc⟩, ht _ (hG _ hc).1, ok _ (by simp [va_wsS]), ⟨hd.1, hd.2.1⟩, fun sig h => ?_, ok _ (by simp [va_wsS]), ok _ (by simp [va_wsS])⟩
  have h2 := hd.2.2
  rw [h] at h2
  exact (Option.some.inj h2).symm
theorem vx_callSW (X : Stand p l e R s m args below meth c T locs cells slots) (hexec : p.tables.exec = Jvm.exec) {own : String} {index : Nat} {y : MethodName} {bytes : ByteArray} {maxL : Nat} {ret : Option FieldType} {hh : List (Nat × Nat × Nat × Nat)}
    (hown : s.vm.findClass own = some m.cls) (hlink : (Cond.methodLink own index y).before args s = true) (hstat : (Cond.static y).before args s = true) (hinit : (Cond.initialized y.cls).before args s = true)
    (hcode : (Cond.codeWith y bytes maxL ret hh).before args s = true) (hy : y.cls ≠ "java/lang/invoke/MethodHandle" ∧ y.cls ≠ "java/lang/invoke/VarHandle")
    {W9 : Nat} {Pre : Pt → Array Value → Prop} {Post : Pt → Array Value → Option Value → Pt → Prop} (hK : Back l R p e below s args y 3 W9 Pre Post)
    {g : JFrame} (hg : g.method = m) (hsize : g.locals.size = c.maxLocals) {argsL rest : List Value} (hlen : ∀ sig, parseMethodDescriptor y.desc = some sig → argsL.length = sig.parameters.length)
    (hstack : g.stack = argsL.reverse ++ rest) (hW : 2 * g.monitorRoom + (rest.map fun v => v.category).sum ≤ W9) (hdg : decode c.code g.pc = .ok (.invokestatic index, 3))
    (hpre : ∀ vm₁, s.WarmedH vm₁ → Pre ⟨T.setVm vm₁, locs, cells, slots⟩ argsL.toArray) :
    ∃ (v : Option Value) (vm₁ : Vm) (B : Pt), s.WarmedH vm₁ ∧ Stand p l e R s m args below meth c B.U B.locs B.cells B.slots ∧ Post ⟨T.setVm vm₁, locs, cells, slots⟩ argsL.toArray v B ∧
      ∀ target, Steps p.tables e below (B.U.setTop { g with pc := g.pc + 3, stack := v.toList ++ rest }) target → Steps p.tables e below (T.setTop g) target := by
  obtain ⟨mk, methM, cM, hnamed, hmethM, -, -, -, -, -, -, hsigM⟩ := Cond.codeWith_spec hcode
  have hstatic : methM.isStatic = true := Cond.static_spec hnamed hmethM hstat
  obtain ⟨kP, hkP, -⟩ := className_of_methodNamed hnamed
  have hinitP : kP.init = .initialized := Cond.initialized_spec (findClass_of_methodNamed hnamed) hkP hinit
  obtain ⟨vm₁, X₁, hstep₁⟩ := X.invokestatic hexec hown hlink hnamed hmethM hstatic hkP hinitP hy (g := g) hg (argsL := argsL) (rest := rest) (hlen _ hsigM) hstack hdg
  obtain ⟨v, B, X', hpost, hsteps⟩ := hK m meth c ⟨T.setVm vm₁, locs, cells, slots⟩ { g with stack := rest } (.invokestatic index) mk argsL.toArray X₁ hg hsize hdg hW (X₁.named hnamed) (hpre vm₁ X₁.warmed)
  exact ⟨v, vm₁, B, X₁.warmed, X', hpost, fun target h => hstep₁ _ fun acts => by rw [doInvoke_state]; exact hsteps.trans h⟩
theorem vx_runSW {y : MethodName} {bytes cc : ByteArray} {maxL nL mc ms n index : Nat} {ret : Option FieldType} {hh : List (Nat × Nat × Nat × Nat)} {ws : List Cond} {rm : Room} {Pc : Array Value → State → Prop} {Qc : Array Value → State → Outcome → State → Prop} {free : Addr → Prop} {Ts : List Cond} {own : String} {As rest : List Value} {g : JFrame}
    (S : CallFix p m c cc nL s args Ts own) (hM : Met l y ws rm Pc Qc mc ms free) (cw : vx_CSW R s args own index y bytes maxL ret hh ws rm mc ms n) (hp : PreS s H Pc As)
    (hg : g.method = m) (hn : As.length = n) (hsize : g.locals.size = nL) (hstack : g.stack = As.reverse ++ rest) (hW : 2 * g.monitorRoom + (rest.map fun v => v.category).sum ≤ 8) (hdg : decode cc g.pc = .ok (.invokestatic index, 3)) (hf : cells + mc ≤ R.cells ∧ slots + ms ≤ R.slots) :
    va_Run p l e R s m args below meth c H locs cells slots mc ms g rest (Qc As.toArray) (free) := by
  obtain ⟨⟨hrc, hrs, hfr, hlo, hws, hcw⟩, hcode, hini, hy, hlen, hl, hstt⟩ := cw
  have hK : Back l R p e below s args y 3 8 (PreOf R mc ms Pc) (PostOf Qc mc ms free) := va_backW (hh := hh) (bytes := bytes) (maxL := maxL) (ret := ret) hM hp.1 hrc hrs hfr hlo hws hcw (fun a' U hW => word_at hW (Or.inl (by first | rfl | simp [Cond.onTables, Cond.keeps, Cond.steady])) hini)
  obtain ⟨hx, hb, hml, ho, -⟩ := S
  intro T hT X
  obtain ⟨v, vm₁, ⟨U', l2, c2, s2⟩, hW₁, X', ⟨g', mk, t, L, e1, e2, hq, h1, hL, h2, h3⟩, st⟩ := vx_callSW X hx (hh := hh) (bytes := bytes) (maxL := maxL) (ret := ret) ho hl hstt hini hcode hy hK hg (hsize.trans hml.symm) (argsL := As) (rest := rest) (fun sig h => hn.trans (hlen sig h)) hstack hW (by rw [hb]; exact hdg)
    (fun vm₁ hW₁ => ⟨hf.1, hf.2, hp.2 (T.setVm vm₁) hT hW₁⟩)
  dsimp only [Pt.U, Pt.locs, Pt.cells, Pt.slots] at X' e1 e2 h1 h2 h3 st
  subst h1; subst h2; subst h3
  exact ⟨v, (T.setVm vm₁).calling g' mk As.toArray, t, U', L, hT, X', hL, e1, e2, hq, st⟩
/-- not caught here, past rows that name other classes: it goes on to the caller -/
theorem vx_outP {p : Program} {l : Launch} {e : Env} {R : Room} {s : State} {m : MethodId} {args : Array Value} {below : List Frame} {meth : Method} {c : Code} {H : Heap} {locs : List Loc} {cells slots : Nat} {free : Addr → Prop} {ls : Array Slot} {rest : List Value} {Qc : Array Value → State → Outcome → State → Prop} {XC : String → State → State → Prop}
    {pc : Nat} {own E : String} {ce : Cell} {q : Addr} {mc ms : Nat} (hown : s.vm.findClass own = some m.cls) (hlocks : meth.locks = false)
    (hpass : ∀ z ∈ c.exceptionTable.toList, covers z pc = false ∨ (z.catchType ≠ 0 ∧ ∃ nm : String, (Cond.classLink own z.catchType nm).before args s = true ∧ va_Nc E nm s)) (hcell : H[q]? = some ce) (hv : ce.vm = .none) (hcl : s.vm.findClass E = some ce.cls)
    (hx : ∀ t : State, t.heap = H → s.vm.Alike t.vm → XC E s t) (hf : ∀ z ∈ locs, free z.base) (hc : cells ≤ mc) (hs : slots ≤ ms) :
    vx_W p l e R s m args below meth c H locs cells slots (vx_MQ below Qc XC args s mc ms free) (F0 m pc ls rest) q := by
  intro T hT X
  have hpl : e.platform.magicAccessors = ({} : Platform).magicAccessors := by rw [X.admits.platform]
  obtain ⟨vm', hW', X', st⟩ := X.outThrough hlocks q (g := F0 m pc ls rest) rfl rfl rfl (cell := ce) (by rw [hT]; exact hcell) (by rw [hv]; rfl)
    (by obtain ⟨k9, h9, -⟩ := Vm.findClass_spec hcl; exact ⟨k9, h9⟩) (fun z hz => by
      rcases hpass z hz with h | ⟨hz0, nm, hl1, hn1⟩
      · exact Or.inl h
      · obtain ⟨c6, hc6, hcl6⟩ := Cond.classLink_spec hown hl1 e.platform hpl
        obtain ⟨a8, b8, h1, h2, h3⟩ := hn1
        cases Option.some.inj (h1.symm.trans hcl)
        cases Option.some.inj (h2.symm.trans hc6)
        exact Or.inr ⟨hz0, _, hcl6, h3⟩)
  obtain ⟨g₀, hfr⟩ := X'.frames_eq
  have hcell9 : ((T.setVm vm').setFrames (.throwing q :: below)).heap[q]? = some ce := by
    show T.heap[q]? = some ce
    rw [hT]; exact hcell
  have hend : Ended ((T.setVm vm').setFrames (.throwing q :: below)) below (.threw q) := State.frames_setFrames _ (State.cur_lt_of_frames hfr)
  refine ⟨(T.setVm vm').setFrames (.throwing q :: below), ?_, .threw q, X'.here.running, hend, Or.inr ⟨q, rfl, E, ce, locs, hx _ hT (X'.ends _).1.alike, hcell9, hv, hcl, (X'.ends _).1, (X'.ends _).2.mono hc hs, hf⟩⟩
  rw [X.pushThrowing_eq]
  exact st
/-- a thing of a world lies in the heap -/
theorem vx_lt {D : va_G} {cl : List vw_C} {ws : va_W} {H1 : Heap} (h : va_P D cl ws H1) {k : Nat} {q : Nat × va_E} (hk : ws[k]? = some q) : q.1 < H1.size := (h k q hk).lt
end VXS
/-! ===== END ===== -/
/-! ===== BEGIN methods with a table of their own: called by a name, returning or throwing ===== -/
section VXH
/-! vx_backW, vx_callVX, vx_callSX, vx_callVW, vx_runVW, vx_runVX, vx_runSX, vx_ofWH follow the same proofs as their sisters above (Free/Laws.lean, Shelf42/LK1.lean); vx_outP calls Shelf42/NT130.lean (outThrough). -/
section
variable {l : Launch} {R : Room} {p : Program} {e : Env} {below : List Frame} {s : State} {sargs : Array Value} {y : MethodName} {len W9 : Nat}
theorem vx_backW {ws : List Cond} {rm : Room} {Pc : Array Value → State → Prop} {Qc : Array Value → State → Outcome → State → Prop} {XC : String → State → State → Prop} {mc ms : Nat} {free : Addr → Prop} {bytes : ByteArray} {maxL : Nat} {ret : Option FieldType} {hh : List (Nat × Nat × Nat × Nat)}
    (hM : vx_Met l y ws rm Pc Qc XC mc ms free) (hblind : FrameBlind Pc) (hrc : rm.cells = mc) (hrs : rm.slots = ms)
    (hframes : rm.frames + 1 ≤ R.frames) (hlocals : W9 + (maxL + 11) + rm.locals ≤ R.locals)
    (hws : ∀ w ∈ ws, ∀ a' U, s.WarmedH U.vm → w.before a' U = true) (hcode : Cond.codeWith y bytes maxL ret hh ∈ ws) (hinit : ∀ a' U, s.WarmedH U.vm → (Cond.initialized y.cls).before a' U = true) :
    vx_Back l R p e below s sargs y len W9 (PreOf R mc ms Pc) (PostOf Qc mc ms free) (vx_Post XC mc ms free) := by
  intro m meth c A g ig mk a X hg hsize hdg hW hn hp
  have h1 : (headSpec ws rm).pre.before a A.U = true := atoms_intro fun w hw => hws w hw _ _ X.warmed
  have h2 : (Cond.codeWith y bytes maxL ret hh).before a A.U = true := hws _ hcode _ _ X.warmed
  have h3 : (Cond.initialized y.cls).before a A.U = true := hinit _ _ X.warmed
  have h4 : A.cells + (headSpec ws rm).room.cells ≤ R.cells := by rw [show (headSpec ws rm).room.cells = mc from hrc]; exact hp.1
  have h5 : A.slots + (headSpec ws rm).room.slots ≤ R.slots := by rw [show (headSpec ws rm).room.slots = ms from hrs]; exact hp.2.1
  have hPc : Pc a (A.U.calling g mk a) := hblind _ _ _ _ hp.2.2
  obtain ⟨U, Ls, c0, s0⟩ := A
  dsimp only [Pt.U, Pt.locs, Pt.cells, Pt.slots] at h1 h2 h3 h4 h5 X hn hPc ⊢
  obtain ⟨m9, methY, cY, hn9, hmY, hcY, -, hlY, -⟩ := Cond.codeWith_spec h2
  cases Option.some.inj (hn9.symm.trans hn)
  obtain ⟨kY, hkY, -⟩ := className_of_methodNamed hn
  have hinitY : kY.init = .initialized := Cond.initialized_spec (findClass_of_methodNamed hn) hkY h3
  have h : At U g.method c below := by rw [hg]; exact X.here
  have hlocals9 : W9 + (maxL + 11) + (headSpec ws rm).room.locals ≤ R.locals := hlocals
  have happ : (headSpec ws rm).appliesLoose y e.platform (U.calling g mk a) = true :=
    Spec.appliesLoose_calling (g := g) h hdg hn hkY hinitY
      (X.room_calling (g := g) (R' := (headSpec ws rm).room) hsize hmY hcY hframes (by rw [hlY]; omega) h4 h5) h1
  obtain ⟨mid, hmid⟩ := h.above
  have hfr : (U.setTop g).frames = (.java g :: mid) ++ below := by rw [State.frames_setTop' g h.top, hmid]; rfl
  obtain ⟨o, s₂, hsteps, -, hend, hq⟩ := Steps.callFree hM p X.admits X.cas X.clock (acts := []) hfr happ hPc trivial
  have hq' : vx_Q Qc XC mc ms free a (U.calling g mk a) o s₂ := hq
  rw [State.frames_setTop' g h.top] at hend
  obtain ⟨g₀, hg0⟩ := Option.isSome_iff_exists.mp h.top
  obtain ⟨r, hr⟩ := State.topJava?_eq_some.mp hg0
  have hr' : (({ U with heap := s₂.heap, slotsUsed := s₂.slotsUsed } : State).setVm s₂.vm).frames = .java g₀ :: r := hr
  rcases hq' with ⟨hqc, L, hfe, hL⟩ | ⟨q, rfl, E, ce, L, hx, hce, hcv, hcl, hW₂, hsm, hL⟩
  · obtain ⟨⟨v, rfl⟩, hW₂, e2, q2, q3, q4, q5, q6⟩ := id hfe
    have e3 : s₂ = ({ (U.calling g mk a).setFrames s₂.frames with heap := s₂.heap, slotsUsed := s₂.slotsUsed } : State).setVm s₂.vm := by
      have : s₂ = ({ s₂ with vm := (U.calling g mk a).vm } : State).setVm s₂.vm := rfl
      rw [e2] at this
      exact this
    obtain ⟨c₂, i₂, len₂, hc₂, hd₂, hf₂⟩ := hend
    have hW' : U.WarmedH s₂.vm := hW₂
    have hcc : c₂ = c := by
      have h1 : s₂.code? g.method = U.code? g.method := by
        rw [State.code?_eq, State.code?_eq, hW'.alike.method?]
      exact Option.some.inj (hc₂.symm.trans (h1.trans h.code))
    subst hcc
    have hlen : len₂ = len := by rw [hdg] at hd₂; cases hd₂; rfl
    subst hlen
    have hs₂ : s₂ = (({ U with heap := s₂.heap, slotsUsed := s₂.slotsUsed } : State).setVm s₂.vm).setTop { g with pc := g.pc + len₂, stack := v.toList ++ g.stack } := by
      refine e3.trans ?_
      rw [hf₂, State.calling_eq h.top, State.setFrames_setFrames, State.setTop_of_frames _ hr', hr]
      rfl
    have hsame : U.sameButNew ({ U with heap := s₂.heap, slotsUsed := s₂.slotsUsed } : State) L mc ms := by
      refine ⟨?_, q2, q3, q4, q5, q6⟩
      obtain ⟨t, ht, -⟩ := State.frames_cons hr
      show ({ U with heap := s₂.heap, slotsUsed := s₂.slotsUsed } : State) = { U.setFrames U.frames with heap := s₂.heap, slotsUsed := s₂.slotsUsed }
      rw [State.setFrames_self ht]
    subst hg
    refine Or.inl ⟨v, ⟨(({ U with heap := s₂.heap, slotsUsed := s₂.slotsUsed } : State).setVm s₂.vm), Ls ++ L, c0 + mc, s0 + ms⟩,
      ⟨X.admits, X.cas, X.clock, X.frames, X.room, X.hears, X.method, X.code, (X.here.setHeapUsed s₂.heap s₂.slotsUsed).setVm hW'.alike, X.tail, State.WarmedH.trans X.warmed hW', X.limits, X.bytes, X.same.trans (hsame.setVm s.vm)⟩,
      ⟨g, mk, s₂, L, rfl, rfl, hqc, rfl, hL, rfl, rfl⟩, ?_⟩
    show Steps p.tables e below _ ((({ U with heap := s₂.heap, slotsUsed := s₂.slotsUsed } : State).setVm s₂.vm).setTop { g with pc := g.pc + len₂, stack := v.toList ++ g.stack })
    rw [← hs₂]
    exact hsteps
  · obtain ⟨e2, q2, q3, q4, q5, q6⟩ := id hsm
    have e3 : s₂ = ({ (U.calling g mk a).setFrames s₂.frames with heap := s₂.heap, slotsUsed := s₂.slotsUsed } : State).setVm s₂.vm := by
      have : s₂ = ({ s₂ with vm := (U.calling g mk a).vm } : State).setVm s₂.vm := rfl
      rw [e2] at this
      exact this
    have hf₂ : s₂.frames = .throwing q :: .java g :: U.frames.tail := hend
    have hW' : U.WarmedH s₂.vm := hW₂
    have hs₂ : s₂ = ((({ U with heap := s₂.heap, slotsUsed := s₂.slotsUsed } : State).setVm s₂.vm).setTop g).pushFrame (.throwing q) := by
      refine e3.trans ?_
      rw [hf₂, State.calling_eq h.top, State.setFrames_setFrames, State.pushFrame, State.frames_setTop _ hr', State.setTop_of_frames _ hr', State.setFrames_setFrames, hr]
      rfl
    have hsame : U.sameButNew ({ U with heap := s₂.heap, slotsUsed := s₂.slotsUsed } : State) L mc ms := by
      refine ⟨?_, q2, q3, q4, q5, q6⟩
      obtain ⟨t, ht, -⟩ := State.frames_cons hr
      show ({ U with heap := s₂.heap, slotsUsed := s₂.slotsUsed } : State) = { U.setFrames U.frames with heap := s₂.heap, slotsUsed := s₂.slotsUsed }
      rw [State.setFrames_self ht]
    subst hg
    refine Or.inr ⟨q, ⟨(({ U with heap := s₂.heap, slotsUsed := s₂.slotsUsed } : State).setVm s₂.vm), Ls ++ L, c0 + mc, s0 + ms⟩,
      ⟨X.admits, X.cas, X.clock, X.frames, X.room, X.hears, X.method, X.code, (X.here.setHeapUsed s₂.heap s₂.slotsUsed).setVm hW'.alike, X.tail, State.WarmedH.trans X.warmed hW', X.limits, X.bytes, X.same.trans (hsame.setVm s.vm)⟩,
      ⟨g, mk, s₂, L, E, ce, rfl, rfl, hx, hce, hcv, hcl, rfl, hL, rfl, rfl⟩, ?_⟩
    show Steps p.tables e below _ (((({ U with heap := s₂.heap, slotsUsed := s₂.slotsUsed } : State).setVm s₂.vm).setTop g).pushFrame (.throwing q))
    rw [← hs₂]
    exact hsteps
end
variable {p : Program} {l : Launch} {e : Env} {R : Room} {s : State} {m : MethodId} {args : Array Value} {below : List Frame} {meth : Method} {c : Code} {T : State} {H : Heap} {locs : List Loc} {cells slots : Nat}
theorem vx_callVX (X : Stand p l e R s m args below meth c T locs cells slots) (hexec : p.tables.exec = Jvm.exec) {own C : String} {index : Nat} {y : MethodName} {bytes : ByteArray} {maxL : Nat} {ret : Option FieldType} {hh : List (Nat × Nat × Nat × Nat)}
    (hown : s.vm.findClass own = some m.cls) (hlink : (Cond.methodLink own index y).before args s = true) (hinst : (Cond.instanceMethod y).before args s = true) (hsel : (Cond.selects C y y).before args s = true)
    (hcode : (Cond.codeWith y bytes maxL ret hh).before args s = true) (hy : y.cls ≠ "java/lang/invoke/MethodHandle" ∧ y.cls ≠ "java/lang/invoke/VarHandle")
    {W9 : Nat} {Pre : Pt → Array Value → Prop} {Post : Pt → Array Value → Option Value → Pt → Prop} {PostX : Pt → Array Value → Addr → Pt → Prop} (hK : vx_Back l R p e below s args y 3 W9 Pre Post PostX)
    {b : Addr} {cellB : Cell} (hcell : T.heap[b]? = some cellB) (hobj : cellB.vm.isStatics = false) (hcls : s.vm.findClass C = some cellB.cls)
    {g : JFrame} (hg : g.method = m) (hsize : g.locals.size = c.maxLocals) {argsL rest : List Value} (hlen : ∀ sig, parseMethodDescriptor y.desc = some sig → argsL.length = sig.parameters.length)
    (hstack : g.stack = argsL.reverse ++ .ref b :: rest) (hW : 2 * g.monitorRoom + (rest.map fun v => v.category).sum ≤ W9) (hdg : decode c.code g.pc = .ok (.invokevirtual index, 3))
    (hpre : ∀ vm₁, s.WarmedH vm₁ → Pre ⟨T.setVm vm₁, locs, cells, slots⟩ (Value.ref b :: argsL).toArray) :
    (∃ (v : Option Value) (vm₁ : Vm) (B : Pt), s.WarmedH vm₁ ∧ Stand p l e R s m args below meth c B.U B.locs B.cells B.slots ∧ Post ⟨T.setVm vm₁, locs, cells, slots⟩ (Value.ref b :: argsL).toArray v B ∧
      ∀ target, Steps p.tables e below (B.U.setTop { g with pc := g.pc + 3, stack := v.toList ++ rest }) target → Steps p.tables e below (T.setTop g) target) ∨
    (∃ (q : Addr) (vm₁ : Vm) (B : Pt), s.WarmedH vm₁ ∧ Stand p l e R s m args below meth c B.U B.locs B.cells B.slots ∧ PostX ⟨T.setVm vm₁, locs, cells, slots⟩ (Value.ref b :: argsL).toArray q B ∧
      Steps p.tables e below (T.setTop g) ((B.U.setTop { g with stack := rest }).pushFrame (.throwing q))) := by
  obtain ⟨mk, methM, hnamed, hmethM, hstM, habM⟩ := Cond.instanceMethod_spec hinst
  obtain ⟨m8, methM', cM, hn8, hmethM', -, -, -, -, -, -, hsigM⟩ := Cond.codeWith_spec hcode
  cases Option.some.inj (hn8.symm.trans hnamed)
  cases hmethM.symm.trans hmethM'
  obtain ⟨c2, r2, m2, q1, q2, q3, q4, kP, hkP, hkPi⟩ := Cond.selects_spec hsel
  cases hcls.symm.trans q1
  cases (State.methodFound?_of_named hnamed hy).symm.trans q2
  cases hnamed.symm.trans q3
  have hselP : selectMethod e.platform s.vm cellB.cls mk = .method mk := by rw [Launch.admits_selectMethod X.admits]; exact q4
  obtain ⟨vm₁, X₁, hstep₁⟩ := X.invokevirtual hexec hown hlink hnamed hmethM hstM hkP hkPi hy (a := b) (cell := cellB) hcell
    (fun z h => by rw [h] at hobj; cases hobj) hselP hmethM habM hkP hkPi (g := g) hg (argsL := argsL) (rest := rest) (hlen _ hsigM) hstack hdg
  rcases hK m meth c ⟨T.setVm vm₁, locs, cells, slots⟩ { g with stack := rest } (.invokevirtual index) mk (Value.ref b :: argsL).toArray X₁ hg hsize hdg hW (X₁.named hnamed) (hpre vm₁ X₁.warmed) with ⟨v, B, X', hpost, hsteps⟩ | ⟨q, B, X', hpost, hsteps⟩
  · exact Or.inl ⟨v, vm₁, B, X₁.warmed, X', hpost, fun target h => hstep₁ _ fun acts => by rw [doInvoke_state]; exact hsteps.trans h⟩
  · exact Or.inr ⟨q, vm₁, B, X₁.warmed, X', hpost, hstep₁ _ fun acts => by rw [doInvoke_state]; exact hsteps⟩
theorem vx_callSX (X : Stand p l e R s m args below meth c T locs cells slots) (hexec : p.tables.exec = Jvm.exec) {own : String} {index : Nat} {y : MethodName} {bytes : ByteArray} {maxL : Nat} {ret : Option FieldType} {hh : List (Nat × Nat × Nat × Nat)}
    (hown : s.vm.findClass own = some m.cls) (hlink : (Cond.methodLink own index y).before args s = true) (hstat : (Cond.static y).before args s = true) (hinit : (Cond.initialized y.cls).before args s = true)
    (hcode : (Cond.codeWith y bytes maxL ret hh).before args s = true) (hy : y.cls ≠ "java/lang/invoke/MethodHandle" ∧ y.cls ≠ "java/lang/invoke/VarHandle")
    {W9 : Nat} {Pre : Pt → Array Value → Prop} {Post : Pt → Array Value → Option Value → Pt → Prop} {PostX : Pt → Array Value → Addr → Pt → Prop} (hK : vx_Back l R p e below s args y 3 W9 Pre Post PostX)
    {g : JFrame} (hg : g.method = m) (hsize : g.locals.size = c.maxLocals) {argsL rest : List Value} (hlen : ∀ sig, parseMethodDescriptor y.desc = some sig → argsL.length = sig.parameters.length)
    (hstack : g.stack = argsL.reverse ++ rest) (hW : 2 * g.monitorRoom + (rest.map fun v => v.category).sum ≤ W9) (hdg : decode c.code g.pc = .ok (.invokestatic index, 3))
    (hpre : ∀ vm₁, s.WarmedH vm₁ → Pre ⟨T.setVm vm₁, locs, cells, slots⟩ argsL.toArray) :
    (∃ (v : Option Value) (vm₁ : Vm) (B : Pt), s.WarmedH vm₁ ∧ Stand p l e R s m args below meth c B.U B.locs B.cells B.slots ∧ Post ⟨T.setVm vm₁, locs, cells, slots⟩ argsL.toArray v B ∧
      ∀ target, Steps p.tables e below (B.U.setTop { g with pc := g.pc + 3, stack := v.toList ++ rest }) target → Steps p.tables e below (T.setTop g) target) ∨
    (∃ (q : Addr) (vm₁ : Vm) (B : Pt), s.WarmedH vm₁ ∧ Stand p l e R s m args below meth c B.U B.locs B.cells B.slots ∧ PostX ⟨T.setVm vm₁, locs, cells, slots⟩ argsL.toArray q B ∧
      Steps p.tables e below (T.setTop g) ((B.U.setTop { g with stack := rest }).pushFrame (.throwing q))) := by
  obtain ⟨mk, methM, cM, hnamed, hmethM, -, -, -, -, -, -, hsigM⟩ := Cond.codeWith_spec hcode
  have hstatic : methM.isStatic = true := Cond.static_spec hnamed hmethM hstat
  obtain ⟨kP, hkP, -⟩ := className_of_methodNamed hnamed
  have hinitP : kP.init = .initialized := Cond.initialized_spec (findClass_of_methodNamed hnamed) hkP hinit
  obtain ⟨vm₁, X₁, hstep₁⟩ := X.invokestatic hexec hown hlink hnamed hmethM hstatic hkP hinitP hy (g := g) hg (argsL := argsL) (rest := rest) (hlen _ hsigM) hstack hdg
  rcases hK m meth c ⟨T.setVm vm₁, locs, cells, slots⟩ { g with stack := rest } (.invokestatic index) mk argsL.toArray X₁ hg hsize hdg hW (X₁.named hnamed) (hpre vm₁ X₁.warmed) with ⟨v, B, X', hpost, hsteps⟩ | ⟨q, B, X', hpost, hsteps⟩
  · exact Or.inl ⟨v, vm₁, B, X₁.warmed, X', hpost, fun target h => hstep₁ _ fun acts => by rw [doInvoke_state]; exact hsteps.trans h⟩
  · exact Or.inr ⟨q, vm₁, B, X₁.warmed, X', hpost, hstep₁ _ fun acts => by rw [doInvoke_state]; exact hsteps⟩
theorem vx_callVW (X : Stand p l e R s m args below meth c T locs cells slots) (hexec : p.tables.exec = Jvm.exec) {own C : String} {index : Nat} {y : MethodName} {bytes : ByteArray} {maxL : Nat} {ret : Option FieldType} {hh : List (Nat × Nat × Nat × Nat)}
    (hown : s.vm.findClass own = some m.cls) (hlink : (Cond.methodLink own index y).before args s = true) (hinst : (Cond.instanceMethod y).before args s = true) (hsel : (Cond.selects C y y).before args s = true)
    (hcode : (Cond.codeWith y bytes maxL ret hh).before args s = true) (hy : y.cls ≠ "java/lang/invoke/MethodHandle" ∧ y.cls ≠ "java/lang/invoke/VarHandle")
    {W9 : Nat} {Pre : Pt → Array Value → Prop} {Post : Pt → Array Value → Option Value → Pt → Prop} (hK : Back l R p e below s args y 3 W9 Pre Post)
    {b : Addr} {cellB : Cell} (hcell : T.heap[b]? = some cellB) (hobj : cellB.vm.isStatics = false) (hcls : s.vm.findClass C = some cellB.cls)
    {g : JFrame} (hg : g.method = m) (hsize : g.locals.size = c.maxLocals) {argsL rest : List Value} (hlen : ∀ sig, parseMethodDescriptor y.desc = some sig → argsL.length = sig.parameters.length)
    (hstack : g.stack = argsL.reverse ++ .ref b :: rest) (hW : 2 * g.monitorRoom + (rest.map fun v => v.category).sum ≤ W9) (hdg : decode c.code g.pc = .ok (.invokevirtual index, 3))
    (hpre : ∀ vm₁, s.WarmedH vm₁ → Pre ⟨T.setVm vm₁, locs, cells, slots⟩ (Value.ref b :: argsL).toArray) :
    ∃ (v : Option Value) (vm₁ : Vm) (B : Pt), s.WarmedH vm₁ ∧ Stand p l e R s m args below meth c B.U B.locs B.cells B.slots ∧ Post ⟨T.setVm vm₁, locs, cells, slots⟩ (Value.ref b :: argsL).toArray v B ∧
      ∀ target, Steps p.tables e below (B.U.setTop { g with pc := g.pc + 3, stack := v.toList ++ rest }) target → Steps p.tables e below (T.setTop g) target := by
  obtain ⟨mk, methM, hnamed, hmethM, hstM, habM⟩ := Cond.instanceMethod_spec hinst
  obtain ⟨m8, methM', cM, hn8, hmethM', -, -, -, -, -, -, hsigM⟩ := Cond.codeWith_spec hcode
  cases Option.some.inj (hn8.symm.trans hnamed)
  cases hmethM.symm.trans hmethM'
  obtain ⟨c2, r2, m2, q1, q2, q3, q4, kP, hkP, hkPi⟩ := Cond.selects_spec hsel
  cases hcls.symm.trans q1
  cases (State.methodFound?_of_named hnamed hy).symm.trans q2
  cases hnamed.symm.trans q3
  have hselP : selectMethod e.platform s.vm cellB.cls mk = .method mk := by rw [Launch.admits_selectMethod X.admits]; exact q4
  obtain ⟨vm₁, X₁, hstep₁⟩ := X.invokevirtual hexec hown hlink hnamed hmethM hstM hkP hkPi hy (a := b) (cell := cellB) hcell
    (fun z h => by rw [h] at hobj; cases hobj) hselP hmethM habM hkP hkPi (g := g) hg (argsL := argsL) (rest := rest) (hlen _ hsigM) hstack hdg
  obtain ⟨v, B, X', hpost, hsteps⟩ := hK m meth c ⟨T.setVm vm₁, locs, cells, slots⟩ { g with stack := rest } (.invokevirtual index) mk (Value.ref b :: argsL).toArray X₁ hg hsize hdg hW (X₁.named hnamed) (hpre vm₁ X₁.warmed)
  exact ⟨v, vm₁, B, X₁.warmed, X', hpost, fun target h => hstep₁ _ fun acts => by rw [doInvoke_state]; exact hsteps.trans h⟩
abbrev vx_CVW (R : Room) (s : State) (args : Array Value) (own C : String) (index : Nat) (y : MethodName) (bytes : ByteArray) (maxL : Nat) (ret : Option FieldType) (hh : List (Nat × Nat × Nat × Nat)) (ws : List Cond) (rm : Room) (mc ms n : Nat) : Prop :=
  (rm.cells = mc ∧ rm.slots = ms ∧ rm.frames + 1 ≤ R.frames ∧ 8 + (maxL + 11) + rm.locals ≤ R.locals ∧ (∀ w ∈ ws, ∀ (a' : Array Value) (U : State), s.WarmedH U.vm → w.before a' U = true) ∧ Cond.codeWith y bytes maxL ret hh ∈ ws) ∧
  (Cond.codeWith y bytes maxL ret hh).before args s = true ∧ (Cond.initialized y.cls).before args s = true ∧ (y.cls ≠ "java/lang/invoke/MethodHandle" ∧ y.cls ≠ "java/lang/invoke/VarHandle") ∧
  (∀ sig, parseMethodDescriptor y.desc = some sig → n = sig.parameters.length) ∧ (Cond.methodLink own index y).before args s = true ∧ (Cond.instanceMethod y).before args s = true ∧ (Cond.selects C y y).before args s = true
theorem vx_cwVW {own C : String} {index maxL mc ms : Nat} {y : MethodName} {bytes : ByteArray} {ret : Option FieldType} {hh : List (Nat × Nat × Nat × Nat)} {Ts ws ws' : List Cond} {rm : Room} (n : Nat) (ht : ∀ w ∈ Ts, w.before args s = true) (hT : GoodIn Ts (wsV own index C y ws)) (hw : ws = Cond.codeWith y bytes maxL ret hh :: ws') (hrc : rm.cells = mc) (hrs : rm.slots = ms)
    (hd : y.cls = C ∧ y.cls ≠ "java/lang/invoke/MethodHandle" ∧ y.cls ≠ "java/lang/invoke/VarHandle" ∧ (parseMethodDescriptor y.desc).map (fun d => d.parameters.length) = some n) (hR : rm.frames + 1 ≤ R.frames ∧ 8 + (maxL + 11) + rm.locals ≤ R.locals) :
    vx_CVW R s args own C index y bytes maxL ret hh ws rm mc ms n := by
  obtain ⟨hC, hd⟩ := hd
  subst hC
  have ok : ∀ w ∈ wsV own index y.cls y ws, w.before args s = true := fun w h => ht w (hT w h).1
  have hG : GoodIn Ts ws := fun w h => hT w (by unfold wsV; exact List.mem_append_right _ h)
  have hc : Cond.codeWith y bytes maxL ret hh ∈ ws := by rw [hw]; exact List.mem_cons_self
  refine ⟨⟨hrc, hrs, hR.1, hR.2, pay_in ht hG, hc⟩, ht _ (hG _ hc).1, ok _ (by simp [wsV]), ⟨hd.1, hd.2.1⟩, fun sig h => ?_, ok _ (by simp [wsV]), ok _ (by simp [wsV]), ok _ (by simp [wsV])⟩
  have h2 := hd.2.2
  rw [h] at h2
  exact (Option.some.inj h2).symm
theorem vx_runVW {y : MethodName} {bytes cc : ByteArray} {maxL nL mc ms n index : Nat} {ret : Option FieldType} {hh : List (Nat × Nat × Nat × Nat)} {ws : List Cond} {rm : Room} {Pc : Array Value → State → Prop} {Qc : Array Value → State → Outcome → State → Prop} {free : Addr → Prop} {Ts : List Cond} {own C : String} {b : Addr} {As rest : List Value} {g : JFrame}
    (S : CallFix p m c cc nL s args Ts own) (hM : Met l y ws rm Pc Qc mc ms free) (cw : vx_CVW R s args own C index y bytes maxL ret hh ws rm mc ms n) (hp : PreV s H C b Pc As)
    (hg : g.method = m) (hn : As.length = n) (hsize : g.locals.size = nL) (hstack : g.stack = As.reverse ++ .ref b :: rest) (hW : 2 * g.monitorRoom + (rest.map fun v => v.category).sum ≤ 8) (hdg : decode cc g.pc = .ok (.invokevirtual index, 3)) (hf : cells + mc ≤ R.cells ∧ slots + ms ≤ R.slots) :
    va_Run p l e R s m args below meth c H locs cells slots mc ms g rest (Qc (Value.ref b :: As).toArray) free := by
  obtain ⟨⟨hrc, hrs, hfr, hlo, hws, hcw⟩, hcode, hini, hy, hlen, hl, hin, hse⟩ := cw
  have hK : Back l R p e below s args y 3 8 (PreOf R mc ms Pc) (PostOf Qc mc ms free) := va_backW (hh := hh) (bytes := bytes) (maxL := maxL) (ret := ret) hM hp.1 hrc hrs hfr hlo hws hcw (fun a' U hW => word_at hW (Or.inl (by first | rfl | simp [Cond.onTables, Cond.keeps, Cond.steady])) hini)
  obtain ⟨hx, hb, hml, ho, -⟩ := S
  obtain ⟨-, ⟨cellB, hcB, hoB, hclB⟩, hPc⟩ := hp
  intro T hT X
  obtain ⟨v, vm₁, ⟨U', l2, c2, s2⟩, hW₁, X', ⟨g', mk, t, L, e1, e2, hq, h1, hL, h2, h3⟩, st⟩ := vx_callVW X hx (C := C) (hh := hh) (bytes := bytes) (maxL := maxL) (ret := ret) ho hl hin hse hcode hy hK (by rw [hT]; exact hcB) hoB hclB hg (hsize.trans hml.symm) (argsL := As) (rest := rest) (fun sig h => hn.trans (hlen sig h)) hstack hW (by rw [hb]; exact hdg)
    (fun vm₁ hW₁ => ⟨hf.1, hf.2, hPc (T.setVm vm₁) hT hW₁⟩)
  dsimp only [Pt.U, Pt.locs, Pt.cells, Pt.slots] at X' e1 e2 h1 h2 h3 st
  subst h1; subst h2; subst h3
  exact ⟨v, (T.setVm vm₁).calling g' mk (Value.ref b :: As).toArray, t, U', L, hT, X', hL, e1, e2, hq, st⟩
section
variable {y : MethodName} {bytes cc : ByteArray} {maxL nL mc ms n index : Nat} {ret : Option FieldType} {ws : List Cond} {rm : Room} {Pc : Array Value → State → Prop} {Qc : Array Value → State → Outcome → State → Prop} {XC : String → State → State → Prop} {free : Addr → Prop} {Ts : List Cond} {own C : String} {b : Addr} {As rest : List Value} {g : JFrame}
theorem vx_runVX {hh : List (Nat × Nat × Nat × Nat)} (S : CallFix p m c cc nL s args Ts own) (hM : vx_Met l y ws rm Pc Qc XC mc ms free) (cw : vx_CVW R s args own C index y bytes maxL ret hh ws rm mc ms n) (hp : PreV s H C b Pc As)
    (hg : g.method = m) (hn : As.length = n) (hsize : g.locals.size = nL) (hstack : g.stack = As.reverse ++ .ref b :: rest) (hW : 2 * g.monitorRoom + (rest.map fun v => v.category).sum ≤ 8) (hdg : decode cc g.pc = .ok (.invokevirtual index, 3)) (hf : cells + mc ≤ R.cells ∧ slots + ms ≤ R.slots) :
    vx_Run p l e R s m args below meth c H locs cells slots mc ms g rest (Qc (Value.ref b :: As).toArray) XC free := by
  obtain ⟨⟨hrc, hrs, hfr, hlo, hws, hcw⟩, hcode, hini, hy, hlen, hl, hin, hse⟩ := cw
  have hK : vx_Back l R p e below s args y 3 8 (PreOf R mc ms Pc) (PostOf Qc mc ms free) (vx_Post XC mc ms free) := vx_backW (hh := hh) (bytes := bytes) (maxL := maxL) (ret := ret) hM hp.1 hrc hrs hfr hlo hws hcw (fun a' U hW => word_at hW (Or.inl (by first | rfl | simp [Cond.onTables, Cond.keeps, Cond.steady])) hini)
  obtain ⟨hx, hb, hml, ho, -⟩ := S
  obtain ⟨-, ⟨cellB, hcB, hoB, hclB⟩, hPc⟩ := hp
  intro T hT X
  rcases vx_callVX X hx (C := C) (hh := hh) (bytes := bytes) (maxL := maxL) (ret := ret) ho hl hin hse hcode hy hK (by rw [hT]; exact hcB) hoB hclB hg (hsize.trans hml.symm) (argsL := As) (rest := rest) (fun sig h => hn.trans (hlen sig h)) hstack hW (by rw [hb]; exact hdg)
    (fun vm₁ hW₁ => ⟨hf.1, hf.2, hPc (T.setVm vm₁) hT hW₁⟩) with ⟨v, vm₁, ⟨U', l2, c2, s2⟩, hW₁, X', ⟨g', mk, t, L, e1, e2, hq, h1, hL, h2, h3⟩, st⟩ | ⟨q, vm₁, ⟨U', l2, c2, s2⟩, hW₁, X', ⟨g', mk, t, L, E, ce, e1, e2, hq, hce, hcv, hcl, h1, hL, h2, h3⟩, st⟩
  · dsimp only [Pt.U, Pt.locs, Pt.cells, Pt.slots] at X' e1 e2 h1 h2 h3 st
    subst h1; subst h2; subst h3
    exact Or.inl ⟨v, (T.setVm vm₁).calling g' mk (Value.ref b :: As).toArray, t, U', L, hT, X', hL, e1, e2, hq, st⟩
  · dsimp only [Pt.U, Pt.locs, Pt.cells, Pt.slots] at X' e1 e2 h1 h2 h3 st hcl
    subst h1; subst h2; subst h3
    exact Or.inr ⟨q, (T.setVm vm₁).calling g' mk (Value.ref b :: As).toArray, t, U', L, E, ce, hT, X', hL, e1, e2, hq, hce, hcv, vx_cls hW₁ hcl, st⟩
theorem vx_runSX {hh : List (Nat × Nat × Nat × Nat)} (S : CallFix p m c cc nL s args Ts own) (hM : vx_Met l y ws rm Pc Qc XC mc ms free) (cw : vx_CSW R s args own index y bytes maxL ret hh ws rm mc ms n) (hp : PreS s H Pc As)
    (hg : g.method = m) (hn : As.length = n) (hsize : g.locals.size = nL) (hstack : g.stack = As.reverse ++ rest) (hW : 2 * g.monitorRoom + (rest.map fun v => v.category).sum ≤ 8) (hdg : decode cc g.pc = .ok (.invokestatic index, 3)) (hf : cells + mc ≤ R.cells ∧ slots + ms ≤ R.slots) :
    vx_Run p l e R s m args below meth c H locs cells slots mc ms g rest (Qc As.toArray) XC free := by
  obtain ⟨⟨hrc, hrs, hfr, hlo, hws, hcw⟩, hcode, hini, hy, hlen, hl, hstt⟩ := cw
  have hK : vx_Back l R p e below s args y 3 8 (PreOf R mc ms Pc) (PostOf Qc mc ms free) (vx_Post XC mc ms free) := vx_backW (hh := hh) (bytes := bytes) (maxL := maxL) (ret := ret) hM hp.1 hrc hrs hfr hlo hws hcw (fun a' U hW => word_at hW (Or.inl (by first | rfl | simp [Cond.onTables, Cond.keeps, Cond.steady])) hini)
  obtain ⟨hx, hb, hml, ho, -⟩ := S
  intro T hT X
  rcases vx_callSX X hx (hh := hh) (bytes := bytes) (maxL := maxL) (ret := ret) ho hl hstt hini hcode hy hK hg (hsize.trans hml.symm) (argsL := As) (rest := rest) (fun sig h => hn.trans (hlen sig h)) hstack hW (by rw [hb]; exact hdg)
    (fun vm₁ hW₁ => ⟨hf.1, hf.2, hp.2 (T.setVm vm₁) hT hW₁⟩) with ⟨v, vm₁, ⟨U', l2, c2, s2⟩, hW₁, X', ⟨g', mk, t, L, e1, e2, hq, h1, hL, h2, h3⟩, st⟩ | ⟨q, vm₁, ⟨U', l2, c2, s2⟩, hW₁, X', ⟨g', mk, t, L, E, ce, e1, e2, hq, hce, hcv, hcl, h1, hL, h2, h3⟩, st⟩
  · dsimp only [Pt.U, Pt.locs, Pt.cells, Pt.slots] at X' e1 e2 h1 h2 h3 st
    subst h1; subst h2; subst h3
    exact Or.inl ⟨v, (T.setVm vm₁).calling g' mk As.toArray, t, U', L, hT, X', hL, e1, e2, hq, st⟩
  · dsimp only [Pt.U, Pt.locs, Pt.cells, Pt.slots] at X' e1 e2 h1 h2 h3 st hcl
    subst h1; subst h2; subst h3
    exact Or.inr ⟨q, (T.setVm vm₁).calling g' mk As.toArray, t, U', L, E, ce, hT, X', hL, e1, e2, hq, hce, hcv, vx_cls hW₁ hcl, st⟩
end
end VXH
theorem vx_ofWH {l : Launch} {y : MethodName} {ws ws' : List Cond} {rm : Room} {Pc : Array Value → State → Prop} {Qc : Array Value → State → Outcome → State → Prop} {XC : String → State → State → Prop} {mc ms : Nat} {free : Addr → Prop} {cc : ByteArray} {maxL : Nat} {ret : Option FieldType} {hh : List (Nat × Nat × Nat × Nat)}
    (hy : plainName y.cls = true) (hw : ws = Cond.codeWith y cc maxL ret hh :: ws')
    (body : ∀ p e s m args below meth c s₁, BodyLoose p l y (headSpec ws rm) cc maxL ret e s m args below meth c s₁ → c.maxLocals = maxL → Pc args s →
      W p l e (headSpec ws rm).room s m args below meth c s.heap [] 0 0 (vx_MQ below Qc XC args s mc ms free) (entryFrame m args maxL)) : vx_Met l y ws rm Pc Qc XC mc ms free := by
  refine MetFree.of_bodyS (code := cc) (maxLocals := maxL) (ret := ret) hy ?_ ?_
  · intro args s m h hn
    obtain ⟨m9, meth, c, hn9, h1, h2, h3, h4, -, h5, h6, -⟩ := Cond.codeWith_spec (atoms_spec (ws := ws) h _ (by rw [hw]; exact List.mem_cons_self))
    cases hn.symm.trans hn9
    exact ⟨meth, c, h1, h2, h3, h4, h5, h6⟩
  · intro p e s m args below meth c s₁ B hml hP _
    have hh0 : s₁.heap = s.heap := by rw [B.state]; rfl
    obtain ⟨t, a1, o, b1, b2, b3⟩ := body p e s m args below meth c s₁ B hml hP s₁ hh0 (Stand.of_body B)
    exact ⟨t, o, a1, b1, b2, b3⟩
/-! ===== END ===== -/
end
section
/-! ===== BEGIN printed: names, fields, word lists, decode rows ===== -/
def RX0 : String := "NecklaceSisters$Division"
def TX0 : u_T := fun k => match k with
  | 0 => ("NecklaceSisters$Division", "ahead", "[J", true)
  | 1 => ("NecklaceSisters$Division", "found", "[I", true)
  | 2 => ("NecklaceSisters$Division", "places", "I", false)
  | _ => ("NecklaceSisters$Division", "half", "J", false)
def tyX0 : Nat → FieldType := fun k => match k with
  | 0 => .array .long
  | 1 => .array .int
  | 2 => .int
  | _ => .long
abbrev wsX00 : List Cond := u_ws RX0 TX0 4
theorem nmX0 : ∀ a, a < 4 → ∀ b, b < 4 → a ≠ b → (TX0 a).2.1 ≠ (TX0 b).2.1 := by decide +kernel
theorem tyX0_ok : ∀ k, k < 4 → parseFieldDescriptor (TX0 k).2.2.1 = some (tyX0 k) := by decide +kernel
abbrev cX0_init : ByteArray := prog_2_method_1_code
def yX0_init : MethodName := ⟨RX0, "<init>", "()V"⟩
abbrev cX0_weigh : ByteArray := prog_2_method_2_code
def yX0_weigh : MethodName := ⟨RX0, "weigh", "(LNecklaceSisters$Necklace;I)V"⟩
abbrev cX0_sumAhead : ByteArray := prog_2_method_3_code
def yX0_sumAhead : MethodName := ⟨RX0, "sumAhead", "(I)J"⟩
abbrev cX0_isOddOfAKind : ByteArray := prog_2_method_4_code
def yX0_isOddOfAKind : MethodName := ⟨RX0, "isOddOfAKind", "()Z"⟩
abbrev cX0_isOverHalf : ByteArray := prog_2_method_5_code
def yX0_isOverHalf : MethodName := ⟨RX0, "isOverHalf", "(J)Z"⟩
abbrev cX0_keepCut : ByteArray := prog_2_method_6_code
def yX0_keepCut : MethodName := ⟨RX0, "keepCut", "(II)V"⟩
abbrev cX0_foundCut : ByteArray := prog_2_method_7_code
def yX0_foundCut : MethodName := ⟨RX0, "foundCut", "(I)I"⟩
abbrev cX0_fewestByCuts : ByteArray := prog_2_method_8_code
def yX0_fewestByCuts : MethodName := ⟨RX0, "fewestByCuts", "(I)I"⟩
abbrev cX0_withRun : ByteArray := prog_2_method_9_code
def yX0_withRun : MethodName := ⟨RX0, "withRun", "(JIII)J"⟩
abbrev cX0_dividesWith : ByteArray := prog_2_method_10_code
def yX0_dividesWith : MethodName := ⟨RX0, "dividesWith", "(LNecklaceSisters$Division;IIIJ)Z"⟩
abbrev cX0_fewestByOwners : ByteArray := prog_2_method_11_code
def yX0_fewestByOwners : MethodName := ⟨RX0, "fewestByOwners", "()I"⟩
abbrev cX0_leastGapWithin : ByteArray := prog_2_method_12_code
def yX0_leastGapWithin : MethodName := ⟨RX0, "leastGapWithin", "(I)I"⟩
abbrev cX0_leastFrom : ByteArray := prog_2_method_13_code
def yX0_leastFrom : MethodName := ⟨RX0, "leastFrom", "(LNecklaceSisters$Division;IIIJ)I"⟩
abbrev cX0_gapOf : ByteArray := prog_2_method_14_code
def yX0_gapOf : MethodName := ⟨RX0, "gapOf", "(J)I"⟩
def RX1 : String := "NecklaceSisters$History"
def TX1 : u_T := fun k => match k with
  | 0 => ("NecklaceSisters$History", "states", "[LNecklaceSisters$Necklace;", true)
  | 1 => ("NecklaceSisters$History", "next", "I", false)
  | _ => ("NecklaceSisters$History", "count", "I", false)
def tyX1 : Nat → FieldType := fun k => match k with
  | 0 => .array (.object "NecklaceSisters$Necklace")
  | 1 => .int
  | _ => .int
abbrev wsX10 : List Cond := u_ws RX1 TX1 3
theorem nmX1 : ∀ a, a < 3 → ∀ b, b < 3 → a ≠ b → (TX1 a).2.1 ≠ (TX1 b).2.1 := by decide +kernel
theorem tyX1_ok : ∀ k, k < 3 → parseFieldDescriptor (TX1 k).2.2.1 = some (tyX1 k) := by decide +kernel
abbrev cX1_init : ByteArray := prog_3_method_1_code
def yX1_init : MethodName := ⟨RX1, "<init>", "()V"⟩
abbrev cX1_forgetAll : ByteArray := prog_3_method_2_code
def yX1_forgetAll : MethodName := ⟨RX1, "forgetAll", "()V"⟩
abbrev cX1_remember : ByteArray := prog_3_method_3_code
def yX1_remember : MethodName := ⟨RX1, "remember", "(LNecklaceSisters$Necklace;)V"⟩
abbrev cX1_takeBack : ByteArray := prog_3_method_4_code
def yX1_takeBack : MethodName := ⟨RX1, "takeBack", "(LNecklaceSisters$Necklace;)V"⟩
def RX2 : String := "NecklaceSisters$Necklace"
def TX2 : u_T := fun k => match k with
  | 0 => ("NecklaceSisters$Necklace", "jewels", "I", false)
  | 1 => ("NecklaceSisters$Necklace", "broken", "I", false)
  | 2 => ("NecklaceSisters$Necklace", "mover", "I", false)
  | 3 => ("NecklaceSisters$Necklace", "refused", "I", false)
  | 4 => ("NecklaceSisters$Necklace", "setting", "I", false)
  | 5 => ("NecklaceSisters$Necklace", "cuts", "I", false)
  | 6 => ("NecklaceSisters$Necklace", "kinds", "[I", true)
  | 7 => ("NecklaceSisters$Necklace", "weights", "[I", true)
  | _ => ("NecklaceSisters$Necklace", "owners", "[I", true)
def tyX2 : Nat → FieldType := fun k => match k with
  | 0 => .int
  | 1 => .int
  | 2 => .int
  | 3 => .int
  | 4 => .int
  | 5 => .int
  | 6 => .array .int
  | 7 => .array .int
  | _ => .array .int
abbrev wsX20 : List Cond := u_ws RX2 TX2 9
theorem nmX2 : ∀ a, a < 9 → ∀ b, b < 9 → a ≠ b → (TX2 a).2.1 ≠ (TX2 b).2.1 := by decide +kernel
theorem tyX2_ok : ∀ k, k < 9 → parseFieldDescriptor (TX2 k).2.2.1 = some (tyX2 k) := by decide +kernel
abbrev cX2_init : ByteArray := prog_4_method_1_code
def yX2_init : MethodName := ⟨RX2, "<init>", "()V"⟩
abbrev cX2_becomeNew : ByteArray := prog_4_method_2_code
def yX2_becomeNew : MethodName := ⟨RX2, "becomeNew", "()V"⟩
abbrev cX2_becomeLike : ByteArray := prog_4_method_3_code
def yX2_becomeLike : MethodName := ⟨RX2, "becomeLike", "(LNecklaceSisters$Necklace;)V"⟩
abbrev cX2_kindOf : ByteArray := prog_4_method_4_code
def yX2_kindOf : MethodName := ⟨RX2, "kindOf", "(I)I"⟩
abbrev cX2_weightOf : ByteArray := prog_4_method_5_code
def yX2_weightOf : MethodName := ⟨RX2, "weightOf", "(I)I"⟩
abbrev cX2_ownerAt : ByteArray := prog_4_method_6_code
def yX2_ownerAt : MethodName := ⟨RX2, "ownerAt", "(I)I"⟩
abbrev cX2_putJewel : ByteArray := prog_4_method_7_code
def yX2_putJewel : MethodName := ⟨RX2, "putJewel", "(III)V"⟩
abbrev cX2_putOwner : ByteArray := prog_4_method_8_code
def yX2_putOwner : MethodName := ⟨RX2, "putOwner", "(II)V"⟩
abbrev cX2_hasJewel : ByteArray := prog_4_method_9_code
def yX2_hasJewel : MethodName := ⟨RX2, "hasJewel", "(I)Z"⟩
abbrev cX2_hasPlace : ByteArray := prog_4_method_10_code
def yX2_hasPlace : MethodName := ⟨RX2, "hasPlace", "(I)Z"⟩
abbrev cX2_canBeCutAt : ByteArray := prog_4_method_11_code
def yX2_canBeCutAt : MethodName := ⟨RX2, "canBeCutAt", "(I)Z"⟩
abbrev cX2_hasRun : ByteArray := prog_4_method_12_code
def yX2_hasRun : MethodName := ⟨RX2, "hasRun", "(I)Z"⟩
abbrev cX2_valueOf : ByteArray := prog_4_method_13_code
def yX2_valueOf : MethodName := ⟨RX2, "valueOf", "(I)I"⟩
abbrev cX2_jewelAt : ByteArray := prog_4_method_14_code
def yX2_jewelAt : MethodName := ⟨RX2, "jewelAt", "(I)I"⟩
abbrev cX2_placeWith : ByteArray := prog_4_method_15_code
def yX2_placeWith : MethodName := ⟨RX2, "placeWith", "(I)I"⟩
abbrev cX2_isCut : ByteArray := prog_4_method_16_code
def yX2_isCut : MethodName := ⟨RX2, "isCut", "(I)Z"⟩
abbrev cX2_cutCount : ByteArray := prog_4_method_17_code
def yX2_cutCount : MethodName := ⟨RX2, "cutCount", "()I"⟩
abbrev cX2_runs : ByteArray := prog_4_method_18_code
def yX2_runs : MethodName := ⟨RX2, "runs", "()I"⟩
abbrev cX2_runAt : ByteArray := prog_4_method_19_code
def yX2_runAt : MethodName := ⟨RX2, "runAt", "(I)I"⟩
abbrev cX2_firstPlaceOf : ByteArray := prog_4_method_20_code
def yX2_firstPlaceOf : MethodName := ⟨RX2, "firstPlaceOf", "(I)I"⟩
abbrev cX2_placesOf : ByteArray := prog_4_method_21_code
def yX2_placesOf : MethodName := ⟨RX2, "placesOf", "(I)I"⟩
abbrev cX2_valueOfRun : ByteArray := prog_4_method_22_code
def yX2_valueOfRun : MethodName := ⟨RX2, "valueOfRun", "(I)I"⟩
abbrev cX2_placesOfNobody : ByteArray := prog_4_method_23_code
def yX2_placesOfNobody : MethodName := ⟨RX2, "placesOfNobody", "()I"⟩
abbrev cX2_holding : ByteArray := prog_4_method_24_code
def yX2_holding : MethodName := ⟨RX2, "holding", "(II)I"⟩
abbrev cX2_gap : ByteArray := prog_4_method_25_code
def yX2_gap : MethodName := ⟨RX2, "gap", "()I"⟩
abbrev cX2_isFair : ByteArray := prog_4_method_26_code
def yX2_isFair : MethodName := ⟨RX2, "isFair", "()Z"⟩
abbrev cX2_reasonAgainstTaking : ByteArray := prog_4_method_27_code
def yX2_reasonAgainstTaking : MethodName := ⟨RX2, "reasonAgainstTaking", "(I)I"⟩
abbrev cX2_loosen : ByteArray := prog_4_method_28_code
def yX2_loosen : MethodName := ⟨RX2, "loosen", "()V"⟩
abbrev cX2_addJewel : ByteArray := prog_4_method_29_code
def yX2_addJewel : MethodName := ⟨RX2, "addJewel", "(II)Z"⟩
abbrev cX2_swapJewels : ByteArray := prog_4_method_30_code
def yX2_swapJewels : MethodName := ⟨RX2, "swapJewels", "(II)Z"⟩
abbrev cX2_breakAhead : ByteArray := prog_4_method_31_code
def yX2_breakAhead : MethodName := ⟨RX2, "breakAhead", "(I)Z"⟩
abbrev cX2_reverseRing : ByteArray := prog_4_method_32_code
def yX2_reverseRing : MethodName := ⟨RX2, "reverseRing", "()V"⟩
abbrev cX2_setCut : ByteArray := prog_4_method_33_code
def yX2_setCut : MethodName := ⟨RX2, "setCut", "(IZ)Z"⟩
abbrev cX2_giveRun : ByteArray := prog_4_method_34_code
def yX2_giveRun : MethodName := ⟨RX2, "giveRun", "(II)Z"⟩
abbrev cX2_takeRun : ByteArray := prog_4_method_35_code
def yX2_takeRun : MethodName := ⟨RX2, "takeRun", "(I)Z"⟩
abbrev cX2_dealRuns : ByteArray := prog_4_method_36_code
def yX2_dealRuns : MethodName := ⟨RX2, "dealRuns", "(I)Z"⟩
abbrev cX2_chooseSetting : ByteArray := prog_4_method_37_code
def yX2_chooseSetting : MethodName := ⟨RX2, "chooseSetting", "(I)Z"⟩
def RX3 : String := "NecklaceSisters$Script"
def TX3 : u_T := fun k => match k with
  | _ => ("", "", "", false)
def tyX3 : Nat → FieldType := fun k => match k with
  | _ => .int
abbrev wsX30 : List Cond := u_ws RX3 TX3 0
theorem nmX3 : ∀ a, a < 0 → ∀ b, b < 0 → a ≠ b → (TX3 a).2.1 ≠ (TX3 b).2.1 := by decide +kernel
theorem tyX3_ok : ∀ k, k < 0 → parseFieldDescriptor (TX3 k).2.2.1 = some (tyX3 k) := by decide +kernel
abbrev cX3_groupsAbove : ByteArray := prog_5_method_2_code
def yX3_groupsAbove : MethodName := ⟨RX3, "groupsAbove", "(JI)J"⟩
abbrev cX3_succeeds : ByteArray := prog_5_method_3_code
def yX3_succeeds : MethodName := ⟨RX3, "succeeds", "(ILNecklaceSisters$Necklace;LNecklaceSisters$Division;)Z"⟩
abbrev cX3_isDividedWithin : ByteArray := prog_5_method_4_code
def yX3_isDividedWithin : MethodName := ⟨RX3, "isDividedWithin", "(ILNecklaceSisters$Necklace;LNecklaceSisters$Division;)Z"⟩
def RX4 : String := "NecklaceSisters$Simulation"
def TX4 : u_T := fun k => match k with
  | _ => ("", "", "", false)
def tyX4 : Nat → FieldType := fun k => match k with
  | _ => .int
abbrev wsX40 : List Cond := u_ws RX4 TX4 0
theorem nmX4 : ∀ a, a < 0 → ∀ b, b < 0 → a ≠ b → (TX4 a).2.1 ≠ (TX4 b).2.1 := by decide +kernel
theorem tyX4_ok : ∀ k, k < 0 → parseFieldDescriptor (TX4 k).2.2.1 = some (tyX4 k) := by decide +kernel
abbrev cX4_play : ByteArray := prog_6_method_2_code
def yX4_play : MethodName := ⟨RX4, "play", "(JILNecklaceSisters$Necklace;)V"⟩
abbrev cX4_turn : ByteArray := prog_6_method_3_code
def yX4_turn : MethodName := ⟨RX4, "turn", "(ILNecklaceSisters$Necklace;)V"⟩
abbrev cX4_moveJewels : ByteArray := prog_6_method_4_code
def yX4_moveJewels : MethodName := ⟨RX4, "moveJewels", "(ILNecklaceSisters$Necklace;)V"⟩
def RX5 : String := "NecklaceSisters$Slot"
def TX5 : u_T := fun k => match k with
  | 0 => ("NecklaceSisters$Slot", "kept", "LNecklaceSisters$Necklace;", true)
  | _ => ("NecklaceSisters$Slot", "filled", "Z", false)
def tyX5 : Nat → FieldType := fun k => match k with
  | 0 => .object "NecklaceSisters$Necklace"
  | _ => .boolean
abbrev wsX50 : List Cond := u_ws RX5 TX5 2
theorem nmX5 : ∀ a, a < 2 → ∀ b, b < 2 → a ≠ b → (TX5 a).2.1 ≠ (TX5 b).2.1 := by decide +kernel
theorem tyX5_ok : ∀ k, k < 2 → parseFieldDescriptor (TX5 k).2.2.1 = some (tyX5 k) := by decide +kernel
abbrev cX5_init : ByteArray := prog_7_method_1_code
def yX5_init : MethodName := ⟨RX5, "<init>", "()V"⟩
def RX6 : String := "NecklaceSisters$Text"
def TX6 : u_T := fun k => match k with
  | 0 => ("NecklaceSisters$Text", "signs", "[C", true)
  | _ => ("NecklaceSisters$Text", "length", "I", false)
def tyX6 : Nat → FieldType := fun k => match k with
  | 0 => .array .char
  | _ => .int
abbrev wsX60 : List Cond := u_ws RX6 TX6 2
theorem nmX6 : ∀ a, a < 2 → ∀ b, b < 2 → a ≠ b → (TX6 a).2.1 ≠ (TX6 b).2.1 := by decide +kernel
theorem tyX6_ok : ∀ k, k < 2 → parseFieldDescriptor (TX6 k).2.2.1 = some (tyX6 k) := by decide +kernel
abbrev cX6_init : ByteArray := prog_8_method_1_code
def yX6_init : MethodName := ⟨RX6, "<init>", "()V"⟩
abbrev cX6_add : ByteArray := prog_8_method_2_code
def yX6_add : MethodName := ⟨RX6, "add", "(C)V"⟩
abbrev cX6_signAt : ByteArray := prog_8_method_3_code
def yX6_signAt : MethodName := ⟨RX6, "signAt", "(I)C"⟩
abbrev cX6_digitAt : ByteArray := prog_8_method_4_code
def yX6_digitAt : MethodName := ⟨RX6, "digitAt", "(I)I"⟩
abbrev cX6_numberAt : ByteArray := prog_8_method_5_code
def yX6_numberAt : MethodName := ⟨RX6, "numberAt", "(I)I"⟩
abbrev cX6_formOf : ByteArray := prog_8_method_6_code
def yX6_formOf : MethodName := ⟨RX6, "formOf", "(C)Ljava/lang/String;"⟩
abbrev cX6_fits : ByteArray := prog_8_method_7_code
def yX6_fits : MethodName := ⟨RX6, "fits", "(CCC)Z"⟩
abbrev cX6_firstError : ByteArray := prog_8_method_8_code
def yX6_firstError : MethodName := ⟨RX6, "firstError", "()I"⟩
abbrev cX6_performOn : ByteArray := prog_8_method_9_code
def yX6_performOn : MethodName := ⟨RX6, "performOn", "(LNecklaceSisters$Necklace;)I"⟩
abbrev cX6_performs : ByteArray := prog_8_method_10_code
def yX6_performs : MethodName := ⟨RX6, "performs", "(ILNecklaceSisters$Necklace;)Z"⟩
def RX7 : String := "NecklaceSisters"
def TX7 : u_T := fun k => match k with
  | 0 => ("NecklaceSisters", "text", "LNecklaceSisters$Text;", true)
  | 1 => ("NecklaceSisters", "necklace", "LNecklaceSisters$Necklace;", true)
  | 2 => ("NecklaceSisters", "trial", "LNecklaceSisters$Necklace;", true)
  | 3 => ("NecklaceSisters", "history", "LNecklaceSisters$History;", true)
  | 4 => ("NecklaceSisters", "division", "LNecklaceSisters$Division;", true)
  | 5 => ("NecklaceSisters", "firstSlot", "LNecklaceSisters$Slot;", true)
  | _ => ("NecklaceSisters", "secondSlot", "LNecklaceSisters$Slot;", true)
def tyX7 : Nat → FieldType := fun k => match k with
  | 0 => .object "NecklaceSisters$Text"
  | 1 => .object "NecklaceSisters$Necklace"
  | 2 => .object "NecklaceSisters$Necklace"
  | 3 => .object "NecklaceSisters$History"
  | 4 => .object "NecklaceSisters$Division"
  | 5 => .object "NecklaceSisters$Slot"
  | _ => .object "NecklaceSisters$Slot"
abbrev wsX70 : List Cond := u_ws RX7 TX7 7
theorem nmX7 : ∀ a, a < 7 → ∀ b, b < 7 → a ≠ b → (TX7 a).2.1 ≠ (TX7 b).2.1 := by decide +kernel
theorem tyX7_ok : ∀ k, k < 7 → parseFieldDescriptor (TX7 k).2.2.1 = some (tyX7 k) := by decide +kernel
abbrev cX7_init : ByteArray := prog_1_method_1_code
def yX7_init : MethodName := ⟨RX7, "<init>", "()V"⟩
abbrev cX7_append : ByteArray := prog_1_method_2_code
def yX7_append : MethodName := ⟨RX7, "append", "(I)I"⟩
abbrev cX7_clearText : ByteArray := prog_1_method_3_code
def yX7_clearText : MethodName := ⟨RX7, "clearText", "()I"⟩
abbrev cX7_errorPosition : ByteArray := prog_1_method_4_code
def yX7_errorPosition : MethodName := ⟨RX7, "errorPosition", "()I"⟩
abbrev cX7_load : ByteArray := prog_1_method_5_code
def yX7_load : MethodName := ⟨RX7, "load", "()I"⟩
abbrev cX7_about : ByteArray := prog_1_method_6_code
def yX7_about : MethodName := ⟨RX7, "about", "(I)I"⟩
abbrev cX7_jewelOf : ByteArray := prog_1_method_7_code
def yX7_jewelOf : MethodName := ⟨RX7, "jewelOf", "(II)I"⟩
abbrev cX7_placeOf : ByteArray := prog_1_method_8_code
def yX7_placeOf : MethodName := ⟨RX7, "placeOf", "(II)I"⟩
abbrev cX7_runOf : ByteArray := prog_1_method_9_code
def yX7_runOf : MethodName := ⟨RX7, "runOf", "(II)I"⟩
abbrev cX7_has : ByteArray := prog_1_method_10_code
def yX7_has : MethodName := ⟨RX7, "has", "(II)I"⟩
abbrev cX7_jewel : ByteArray := prog_1_method_11_code
def yX7_jewel : MethodName := ⟨RX7, "jewel", "(II)I"⟩
abbrev cX7_exchange : ByteArray := prog_1_method_12_code
def yX7_exchange : MethodName := ⟨RX7, "exchange", "(II)I"⟩
abbrev cX7_breakAt : ByteArray := prog_1_method_13_code
def yX7_breakAt : MethodName := ⟨RX7, "breakAt", "(I)I"⟩
abbrev cX7_turnRound : ByteArray := prog_1_method_14_code
def yX7_turnRound : MethodName := ⟨RX7, "turnRound", "()I"⟩
abbrev cX7_cut : ByteArray := prog_1_method_15_code
def yX7_cut : MethodName := ⟨RX7, "cut", "(IZ)I"⟩
abbrev cX7_give : ByteArray := prog_1_method_16_code
def yX7_give : MethodName := ⟨RX7, "give", "(II)I"⟩
abbrev cX7_take : ByteArray := prog_1_method_17_code
def yX7_take : MethodName := ⟨RX7, "take", "(I)I"⟩
abbrev cX7_deal : ByteArray := prog_1_method_18_code
def yX7_deal : MethodName := ⟨RX7, "deal", "(I)I"⟩
abbrev cX7_divide : ByteArray := prog_1_method_19_code
def yX7_divide : MethodName := ⟨RX7, "divide", "()I"⟩
abbrev cX7_set : ByteArray := prog_1_method_20_code
def yX7_set : MethodName := ⟨RX7, "set", "(I)I"⟩
abbrev cX7_undo : ByteArray := prog_1_method_21_code
def yX7_undo : MethodName := ⟨RX7, "undo", "()I"⟩
abbrev cX7_fewest : ByteArray := prog_1_method_22_code
def yX7_fewest : MethodName := ⟨RX7, "fewest", "(I)I"⟩
abbrev cX7_divided : ByteArray := prog_1_method_23_code
def yX7_divided : MethodName := ⟨RX7, "divided", "(I)I"⟩
abbrev cX7_leastGap : ByteArray := prog_1_method_24_code
def yX7_leastGap : MethodName := ⟨RX7, "leastGap", "(I)I"⟩
abbrev cX7_bestBreak : ByteArray := prog_1_method_25_code
def yX7_bestBreak : MethodName := ⟨RX7, "bestBreak", "()I"⟩
abbrev cX7_bestRun : ByteArray := prog_1_method_26_code
def yX7_bestRun : MethodName := ⟨RX7, "bestRun", "()I"⟩
abbrev cX7_ifGiven : ByteArray := prog_1_method_27_code
def yX7_ifGiven : MethodName := ⟨RX7, "ifGiven", "(II)I"⟩
abbrev cX7_runScript : ByteArray := prog_1_method_28_code
def yX7_runScript : MethodName := ⟨RX7, "runScript", "(IJ)I"⟩
abbrev cX7_simulate : ByteArray := prog_1_method_29_code
def yX7_simulate : MethodName := ⟨RX7, "simulate", "(JI)I"⟩
abbrev cX7_save : ByteArray := prog_1_method_30_code
def yX7_save : MethodName := ⟨RX7, "save", "(I)I"⟩
abbrev cX7_restore : ByteArray := prog_1_method_31_code
def yX7_restore : MethodName := ⟨RX7, "restore", "(I)I"⟩
abbrev cX7_fewestCutsOf : ByteArray := prog_1_method_32_code
def yX7_fewestCutsOf : MethodName := ⟨RX7, "fewestCutsOf", "(LNecklaceSisters$Necklace;)I"⟩
abbrev cX7_gapWith : ByteArray := prog_1_method_33_code
def yX7_gapWith : MethodName := ⟨RX7, "gapWith", "(II)I"⟩
abbrev cX7_isSister : ByteArray := prog_1_method_34_code
def yX7_isSister : MethodName := ⟨RX7, "isSister", "(I)Z"⟩
abbrev cX7_isOwner : ByteArray := prog_1_method_35_code
def yX7_isOwner : MethodName := ⟨RX7, "isOwner", "(I)Z"⟩
abbrev cX7_isKind : ByteArray := prog_1_method_36_code
def yX7_isKind : MethodName := ⟨RX7, "isKind", "(I)Z"⟩
abbrev cX7_isWeight : ByteArray := prog_1_method_37_code
def yX7_isWeight : MethodName := ⟨RX7, "isWeight", "(I)Z"⟩
abbrev cX7_isSetting : ByteArray := prog_1_method_38_code
def yX7_isSetting : MethodName := ⟨RX7, "isSetting", "(I)Z"⟩
abbrev cX7_ownerFor : ByteArray := prog_1_method_39_code
def yX7_ownerFor : MethodName := ⟨RX7, "ownerFor", "(I)I"⟩
def RX8 : String := "NecklaceSistersModel"
def TX8 : u_T := fun k => match k with
  | 0 => ("NecklaceSistersModel", "refusal", "I", false)
  | 1 => ("NecklaceSistersModel", "text", "[I", true)
  | 2 => ("NecklaceSistersModel", "size", "I", false)
  | 3 => ("NecklaceSistersModel", "now", "[I", true)
  | 4 => ("NecklaceSistersModel", "trial", "[I", true)
  | 5 => ("NecklaceSistersModel", "diary", "[I", true)
  | 6 => ("NecklaceSistersModel", "acts", "I", false)
  | 7 => ("NecklaceSistersModel", "kept", "[I", true)
  | 8 => ("NecklaceSistersModel", "isKept", "[Z", true)
  | 9 => ("NecklaceSistersModel", "ahead", "[I", true)
  | 10 => ("NecklaceSistersModel", "tried", "[I", true)
  | 11 => ("NecklaceSistersModel", "spot", "I", false)
  | _ => ("NecklaceSistersModel", "out", "I", false)
def tyX8 : Nat → FieldType := fun k => match k with
  | 0 => .int
  | 1 => .array .int
  | 2 => .int
  | 3 => .array .int
  | 4 => .array .int
  | 5 => .array .int
  | 6 => .int
  | 7 => .array .int
  | 8 => .array .boolean
  | 9 => .array .int
  | 10 => .array .int
  | 11 => .int
  | _ => .int
abbrev wsX80 : List Cond := u_ws RX8 TX8 13
theorem nmX8 : ∀ a, a < 13 → ∀ b, b < 13 → a ≠ b → (TX8 a).2.1 ≠ (TX8 b).2.1 := by decide +kernel
theorem tyX8_ok : ∀ k, k < 13 → parseFieldDescriptor (TX8 k).2.2.1 = some (tyX8 k) := by decide +kernel
abbrev cX8_init : ByteArray := prog_10_method_1_code
def yX8_init : MethodName := ⟨RX8, "<init>", "()V"⟩
abbrev cX8_thrown : ByteArray := prog_10_method_2_code
def yX8_thrown : MethodName := ⟨RX8, "thrown", "()I"⟩
abbrev cX8_refused : ByteArray := prog_10_method_3_code
def yX8_refused : MethodName := ⟨RX8, "refused", "(I)Z"⟩
abbrev cX8_in : ByteArray := prog_10_method_4_code
def yX8_in : MethodName := ⟨RX8, "in", "(JJJ)Z"⟩
abbrev cX8_copyState : ByteArray := prog_10_method_5_code
def yX8_copyState : MethodName := ⟨RX8, "copyState", "([II[II)V"⟩
abbrev cX8_clear : ByteArray := prog_10_method_6_code
def yX8_clear : MethodName := ⟨RX8, "clear", "([I)V"⟩
abbrev cX8_free : ByteArray := prog_10_method_7_code
def yX8_free : MethodName := ⟨RX8, "free", "([I)V"⟩
abbrev cX8_isJewel : ByteArray := prog_10_method_8_code
def yX8_isJewel : MethodName := ⟨RX8, "isJewel", "([II)Z"⟩
abbrev cX8_isCutPlace : ByteArray := prog_10_method_9_code
def yX8_isCutPlace : MethodName := ⟨RX8, "isCutPlace", "([II)Z"⟩
abbrev cX8_isOwner : ByteArray := prog_10_method_10_code
def yX8_isOwner : MethodName := ⟨RX8, "isOwner", "(I)Z"⟩
abbrev cX8_jewelAt : ByteArray := prog_10_method_11_code
def yX8_jewelAt : MethodName := ⟨RX8, "jewelAt", "([II)I"⟩
abbrev cX8_placeOn : ByteArray := prog_10_method_12_code
def yX8_placeOn : MethodName := ⟨RX8, "placeOn", "([II)I"⟩
abbrev cX8_valueOf : ByteArray := prog_10_method_13_code
def yX8_valueOf : MethodName := ⟨RX8, "valueOf", "([II)I"⟩
abbrev cX8_isCut : ByteArray := prog_10_method_14_code
def yX8_isCut : MethodName := ⟨RX8, "isCut", "([II)Z"⟩
abbrev cX8_bits : ByteArray := prog_10_method_15_code
def yX8_bits : MethodName := ⟨RX8, "bits", "(I)I"⟩
abbrev cX8_runs : ByteArray := prog_10_method_16_code
def yX8_runs : MethodName := ⟨RX8, "runs", "([I)I"⟩
abbrev cX8_isRun : ByteArray := prog_10_method_17_code
def yX8_isRun : MethodName := ⟨RX8, "isRun", "([II)Z"⟩
abbrev cX8_runAt : ByteArray := prog_10_method_18_code
def yX8_runAt : MethodName := ⟨RX8, "runAt", "([II)I"⟩
abbrev cX8_firstOf : ByteArray := prog_10_method_19_code
def yX8_firstOf : MethodName := ⟨RX8, "firstOf", "([II)I"⟩
abbrev cX8_placesOf : ByteArray := prog_10_method_20_code
def yX8_placesOf : MethodName := ⟨RX8, "placesOf", "([II)I"⟩
abbrev cX8_hasOf : ByteArray := prog_10_method_21_code
def yX8_hasOf : MethodName := ⟨RX8, "hasOf", "([III)I"⟩
abbrev cX8_gap : ByteArray := prog_10_method_22_code
def yX8_gap : MethodName := ⟨RX8, "gap", "([I)I"⟩
abbrev cX8_nobodys : ByteArray := prog_10_method_23_code
def yX8_nobodys : MethodName := ⟨RX8, "nobodys", "([I)I"⟩
abbrev cX8_layOut : ByteArray := prog_10_method_24_code
def yX8_layOut : MethodName := ⟨RX8, "layOut", "([I)V"⟩
abbrev cX8_gapTried : ByteArray := prog_10_method_25_code
def yX8_gapTried : MethodName := ⟨RX8, "gapTried", "(II)I"⟩
abbrev cX8_firstWay : ByteArray := prog_10_method_26_code
def yX8_firstWay : MethodName := ⟨RX8, "firstWay", "(II)Z"⟩
abbrev cX8_nextWay : ByteArray := prog_10_method_27_code
def yX8_nextWay : MethodName := ⟨RX8, "nextWay", "(II)Z"⟩
abbrev cX8_leastWith : ByteArray := prog_10_method_28_code
def yX8_leastWith : MethodName := ⟨RX8, "leastWith", "(II)I"⟩
abbrev cX8_fewestOf : ByteArray := prog_10_method_29_code
def yX8_fewestOf : MethodName := ⟨RX8, "fewestOf", "([I)I"⟩
abbrev cX8_jewelOn : ByteArray := prog_10_method_30_code
def yX8_jewelOn : MethodName := ⟨RX8, "jewelOn", "([III)I"⟩
abbrev cX8_exchangeOn : ByteArray := prog_10_method_31_code
def yX8_exchangeOn : MethodName := ⟨RX8, "exchangeOn", "([III)I"⟩
abbrev cX8_breakOn : ByteArray := prog_10_method_32_code
def yX8_breakOn : MethodName := ⟨RX8, "breakOn", "([II)I"⟩
abbrev cX8_roundOn : ByteArray := prog_10_method_33_code
def yX8_roundOn : MethodName := ⟨RX8, "roundOn", "([I)I"⟩
abbrev cX8_cutOn : ByteArray := prog_10_method_34_code
def yX8_cutOn : MethodName := ⟨RX8, "cutOn", "([IIZ)I"⟩
abbrev cX8_giveOn : ByteArray := prog_10_method_35_code
def yX8_giveOn : MethodName := ⟨RX8, "giveOn", "([III)I"⟩
abbrev cX8_whyNot : ByteArray := prog_10_method_36_code
def yX8_whyNot : MethodName := ⟨RX8, "whyNot", "([II)I"⟩
abbrev cX8_takeOn : ByteArray := prog_10_method_37_code
def yX8_takeOn : MethodName := ⟨RX8, "takeOn", "([II)I"⟩
abbrev cX8_dealOn : ByteArray := prog_10_method_38_code
def yX8_dealOn : MethodName := ⟨RX8, "dealOn", "([II)I"⟩
abbrev cX8_append : ByteArray := prog_10_method_39_code
def yX8_append : MethodName := ⟨RX8, "append", "(I)I"⟩
abbrev cX8_clearText : ByteArray := prog_10_method_40_code
def yX8_clearText : MethodName := ⟨RX8, "clearText", "()I"⟩
abbrev cX8_figures : ByteArray := prog_10_method_41_code
def yX8_figures : MethodName := ⟨RX8, "figures", "(IIII)I"⟩
abbrev cX8_done : ByteArray := prog_10_method_42_code
def yX8_done : MethodName := ⟨RX8, "done", "(Z)Z"⟩
abbrev cX8_readJewel : ByteArray := prog_10_method_43_code
def yX8_readJewel : MethodName := ⟨RX8, "readJewel", "([I)Z"⟩
abbrev cX8_readCommand : ByteArray := prog_10_method_44_code
def yX8_readCommand : MethodName := ⟨RX8, "readCommand", "([I)Z"⟩
abbrev cX8_readText : ByteArray := prog_10_method_45_code
def yX8_readText : MethodName := ⟨RX8, "readText", "([I)I"⟩
abbrev cX8_errorPosition : ByteArray := prog_10_method_46_code
def yX8_errorPosition : MethodName := ⟨RX8, "errorPosition", "()I"⟩
abbrev cX8_load : ByteArray := prog_10_method_47_code
def yX8_load : MethodName := ⟨RX8, "load", "()I"⟩
abbrev cX8_about : ByteArray := prog_10_method_48_code
def yX8_about : MethodName := ⟨RX8, "about", "(I)I"⟩
abbrev cX8_jewelOf : ByteArray := prog_10_method_49_code
def yX8_jewelOf : MethodName := ⟨RX8, "jewelOf", "(II)I"⟩
abbrev cX8_placeOf : ByteArray := prog_10_method_50_code
def yX8_placeOf : MethodName := ⟨RX8, "placeOf", "(II)I"⟩
abbrev cX8_runOf : ByteArray := prog_10_method_51_code
def yX8_runOf : MethodName := ⟨RX8, "runOf", "(II)I"⟩
abbrev cX8_has : ByteArray := prog_10_method_52_code
def yX8_has : MethodName := ⟨RX8, "has", "(II)I"⟩
abbrev cX8_remember : ByteArray := prog_10_method_53_code
def yX8_remember : MethodName := ⟨RX8, "remember", "()V"⟩
abbrev cX8_jewel : ByteArray := prog_10_method_54_code
def yX8_jewel : MethodName := ⟨RX8, "jewel", "(II)I"⟩
abbrev cX8_exchange : ByteArray := prog_10_method_55_code
def yX8_exchange : MethodName := ⟨RX8, "exchange", "(II)I"⟩
abbrev cX8_breakAt : ByteArray := prog_10_method_56_code
def yX8_breakAt : MethodName := ⟨RX8, "breakAt", "(I)I"⟩
abbrev cX8_turnRound : ByteArray := prog_10_method_57_code
def yX8_turnRound : MethodName := ⟨RX8, "turnRound", "()I"⟩
abbrev cX8_cut : ByteArray := prog_10_method_58_code
def yX8_cut : MethodName := ⟨RX8, "cut", "(IZ)I"⟩
abbrev cX8_give : ByteArray := prog_10_method_59_code
def yX8_give : MethodName := ⟨RX8, "give", "(II)I"⟩
abbrev cX8_take : ByteArray := prog_10_method_60_code
def yX8_take : MethodName := ⟨RX8, "take", "(I)I"⟩
abbrev cX8_deal : ByteArray := prog_10_method_61_code
def yX8_deal : MethodName := ⟨RX8, "deal", "(I)I"⟩
abbrev cX8_divide : ByteArray := prog_10_method_62_code
def yX8_divide : MethodName := ⟨RX8, "divide", "()I"⟩
abbrev cX8_set : ByteArray := prog_10_method_63_code
def yX8_set : MethodName := ⟨RX8, "set", "(I)I"⟩
abbrev cX8_undo : ByteArray := prog_10_method_64_code
def yX8_undo : MethodName := ⟨RX8, "undo", "()I"⟩
abbrev cX8_fewest : ByteArray := prog_10_method_65_code
def yX8_fewest : MethodName := ⟨RX8, "fewest", "(I)I"⟩
abbrev cX8_divided : ByteArray := prog_10_method_66_code
def yX8_divided : MethodName := ⟨RX8, "divided", "(I)I"⟩
abbrev cX8_leastGap : ByteArray := prog_10_method_67_code
def yX8_leastGap : MethodName := ⟨RX8, "leastGap", "(I)I"⟩
abbrev cX8_bestBreak : ByteArray := prog_10_method_68_code
def yX8_bestBreak : MethodName := ⟨RX8, "bestBreak", "()I"⟩
abbrev cX8_gapWith : ByteArray := prog_10_method_69_code
def yX8_gapWith : MethodName := ⟨RX8, "gapWith", "(II)I"⟩
abbrev cX8_bestRun : ByteArray := prog_10_method_70_code
def yX8_bestRun : MethodName := ⟨RX8, "bestRun", "()I"⟩
abbrev cX8_ifGiven : ByteArray := prog_10_method_71_code
def yX8_ifGiven : MethodName := ⟨RX8, "ifGiven", "(II)I"⟩
abbrev cX8_command : ByteArray := prog_10_method_72_code
def yX8_command : MethodName := ⟨RX8, "command", "(II)Z"⟩
abbrev cX8_isDivided : ByteArray := prog_10_method_73_code
def yX8_isDivided : MethodName := ⟨RX8, "isDivided", "(I)Z"⟩
abbrev cX8_runScript : ByteArray := prog_10_method_74_code
def yX8_runScript : MethodName := ⟨RX8, "runScript", "(IJ)I"⟩
abbrev cX8_turnRing : ByteArray := prog_10_method_75_code
def yX8_turnRing : MethodName := ⟨RX8, "turnRing", "([III)V"⟩
abbrev cX8_turnRuns : ByteArray := prog_10_method_76_code
def yX8_turnRuns : MethodName := ⟨RX8, "turnRuns", "([III)V"⟩
abbrev cX8_simulate : ByteArray := prog_10_method_77_code
def yX8_simulate : MethodName := ⟨RX8, "simulate", "(JI)I"⟩
abbrev cX8_save : ByteArray := prog_10_method_78_code
def yX8_save : MethodName := ⟨RX8, "save", "(I)I"⟩
abbrev cX8_restore : ByteArray := prog_10_method_79_code
def yX8_restore : MethodName := ⟨RX8, "restore", "(I)I"⟩
def RJ6 : String := "java/lang/Integer"
def TJ6 : u_T := fun k => match k with
  | _ => ("", "", "", false)
def tyJ6 : Nat → FieldType := fun k => match k with
  | _ => .int
abbrev wsJ60 : List Cond := u_ws RJ6 TJ6 0
theorem nmJ6 : ∀ a, a < 0 → ∀ b, b < 0 → a ≠ b → (TJ6 a).2.1 ≠ (TJ6 b).2.1 := by decide +kernel
theorem tyJ6_ok : ∀ k, k < 0 → parseFieldDescriptor (TJ6 k).2.2.1 = some (tyJ6 k) := by decide +kernel
abbrev cJ6_numberOfTrailingZeros_0f7a4 : ByteArray := prog_15_method_48_code
def yJ6_numberOfTrailingZeros_0f7a4 : MethodName := ⟨RJ6, "numberOfTrailingZeros", "(I)I"⟩
abbrev cJ6_bitCount_0f7a4 : ByteArray := prog_15_method_49_code
def yJ6_bitCount_0f7a4 : MethodName := ⟨RJ6, "bitCount", "(I)I"⟩
def RJ9 : String := "java/lang/Math"
def TJ9 : u_T := fun k => match k with
  | _ => ("", "", "", false)
def tyJ9 : Nat → FieldType := fun k => match k with
  | _ => .int
abbrev wsJ90 : List Cond := u_ws RJ9 TJ9 0
theorem nmJ9 : ∀ a, a < 0 → ∀ b, b < 0 → a ≠ b → (TJ9 a).2.1 ≠ (TJ9 b).2.1 := by decide +kernel
theorem tyJ9_ok : ∀ k, k < 0 → parseFieldDescriptor (TJ9 k).2.2.1 = some (tyJ9 k) := by decide +kernel
abbrev cJ9_abs_0f7a4 : ByteArray := prog_16_method_59_code
def yJ9_abs_0f7a4 : MethodName := ⟨RJ9, "abs", "(I)I"⟩
abbrev cJ9_min_7cf53 : ByteArray := prog_16_method_69_code
def yJ9_min_7cf53 : MethodName := ⟨RJ9, "min", "(II)I"⟩
def RJ0 : String := "java/lang/String"
def TJ0 : u_T := fun k => match k with
  | _ => ("", "", "", false)
def tyJ0 : Nat → FieldType := fun k => match k with
  | _ => .int
abbrev wsJ00 : List Cond := u_ws RJ0 TJ0 0
theorem nmJ0 : ∀ a, a < 0 → ∀ b, b < 0 → a ≠ b → (TJ0 a).2.1 ≠ (TJ0 b).2.1 := by decide +kernel
theorem tyJ0_ok : ∀ k, k < 0 → parseFieldDescriptor (TJ0 k).2.2.1 = some (tyJ0 k) := by decide +kernel
abbrev cJ0_length_8abf5 : ByteArray := prog_18_method_54_code
def yJ0_length_8abf5 : MethodName := ⟨RJ0, "length", "()I"⟩
abbrev cJ0_charAt_5068e : ByteArray := prog_18_method_56_code
def yJ0_charAt_5068e : MethodName := ⟨RJ0, "charAt", "(I)C"⟩
abbrev cJ0_coder_7d493 : ByteArray := prog_18_method_152_code
def yJ0_coder_7d493 : MethodName := ⟨RJ0, "coder", "()B"⟩
abbrev cJ0_isLatin1_aae02 : ByteArray := prog_18_method_154_code
def yJ0_isLatin1_aae02 : MethodName := ⟨RJ0, "isLatin1", "()Z"⟩
abbrev cJ0_checkIndex_df160 : ByteArray := prog_18_method_155_code
def yJ0_checkIndex_df160 : MethodName := ⟨RJ0, "checkIndex", "(II)V"⟩
def RJ1 : String := "java/lang/StringLatin1"
def TJ1 : u_T := fun k => match k with
  | _ => ("", "", "", false)
def tyJ1 : Nat → FieldType := fun k => match k with
  | _ => .int
abbrev wsJ10 : List Cond := u_ws RJ1 TJ1 0
theorem nmJ1 : ∀ a, a < 0 → ∀ b, b < 0 → a ≠ b → (TJ1 a).2.1 ≠ (TJ1 b).2.1 := by decide +kernel
theorem tyJ1_ok : ∀ k, k < 0 → parseFieldDescriptor (TJ1 k).2.2.1 = some (tyJ1 k) := by decide +kernel
abbrev cJ1_charAt_3b067 : ByteArray := prog_19_method_2_code
def yJ1_charAt_3b067 : MethodName := ⟨RJ1, "charAt", "([BI)C"⟩
def RJ2 : String := "java/lang/StringUTF16"
def TJ2 : u_T := fun k => match k with
  | _ => ("", "", "", false)
def tyJ2 : Nat → FieldType := fun k => match k with
  | _ => .int
abbrev wsJ20 : List Cond := u_ws RJ2 TJ2 0
theorem nmJ2 : ∀ a, a < 0 → ∀ b, b < 0 → a ≠ b → (TJ2 a).2.1 ≠ (TJ2 b).2.1 := by decide +kernel
theorem tyJ2_ok : ∀ k, k < 0 → parseFieldDescriptor (TJ2 k).2.2.1 = some (tyJ2 k) := by decide +kernel
abbrev cJ2_getChar_3b067 : ByteArray := prog_20_method_5_code
def yJ2_getChar_3b067 : MethodName := ⟨RJ2, "getChar", "([BI)C"⟩
abbrev cJ2_length_9d52b : ByteArray := prog_20_method_6_code
def yJ2_length_9d52b : MethodName := ⟨RJ2, "length", "([B)I"⟩
abbrev cJ2_charAt_3b067 : ByteArray := prog_20_method_83_code
def yJ2_charAt_3b067 : MethodName := ⟨RJ2, "charAt", "([BI)C"⟩
abbrev cJ2_checkIndex_2214a : ByteArray := prog_20_method_91_code
def yJ2_checkIndex_2214a : MethodName := ⟨RJ2, "checkIndex", "(I[B)V"⟩
def RJ3 : String := "jdk/internal/util/Preconditions"
def TJ3 : u_T := fun k => match k with
  | _ => ("", "", "", false)
def tyJ3 : Nat → FieldType := fun k => match k with
  | _ => .int
abbrev wsJ30 : List Cond := u_ws RJ3 TJ3 0
theorem nmJ3 : ∀ a, a < 0 → ∀ b, b < 0 → a ≠ b → (TJ3 a).2.1 ≠ (TJ3 b).2.1 := by decide +kernel
theorem tyJ3_ok : ∀ k, k < 0 → parseFieldDescriptor (TJ3 k).2.2.1 = some (tyJ3 k) := by decide +kernel
abbrev cJ3_checkIndex_8e157 : ByteArray := prog_22_method_11_code
def yJ3_checkIndex_8e157 : MethodName := ⟨RJ3, "checkIndex", "(IILjava/util/function/BiFunction;)I"⟩
def RL : String := "NecklaceSistersLaw"
abbrev cL_append : ByteArray := method_3_code
def yL_append : MethodName := ⟨RL, "append", "(LNecklaceSisters;I[J)I"⟩
abbrev cL_load : ByteArray := method_4_code
def yL_load : MethodName := ⟨RL, "load", "(LNecklaceSisters;[J)I"⟩
abbrev cL_about : ByteArray := method_5_code
def yL_about : MethodName := ⟨RL, "about", "(LNecklaceSisters;I[J)I"⟩
abbrev cL_jewelOf : ByteArray := method_6_code
def yL_jewelOf : MethodName := ⟨RL, "jewelOf", "(LNecklaceSisters;II[J)I"⟩
abbrev cL_placeOf : ByteArray := method_7_code
def yL_placeOf : MethodName := ⟨RL, "placeOf", "(LNecklaceSisters;II[J)I"⟩
abbrev cL_runOf : ByteArray := method_8_code
def yL_runOf : MethodName := ⟨RL, "runOf", "(LNecklaceSisters;II[J)I"⟩
abbrev cL_has : ByteArray := method_9_code
def yL_has : MethodName := ⟨RL, "has", "(LNecklaceSisters;II[J)I"⟩
abbrev cL_jewel : ByteArray := method_10_code
def yL_jewel : MethodName := ⟨RL, "jewel", "(LNecklaceSisters;II[J)I"⟩
abbrev cL_exchange : ByteArray := method_11_code
def yL_exchange : MethodName := ⟨RL, "exchange", "(LNecklaceSisters;II[J)I"⟩
abbrev cL_breakAt : ByteArray := method_12_code
def yL_breakAt : MethodName := ⟨RL, "breakAt", "(LNecklaceSisters;I[J)I"⟩
abbrev cL_cut : ByteArray := method_13_code
def yL_cut : MethodName := ⟨RL, "cut", "(LNecklaceSisters;IZ[J)I"⟩
abbrev cL_give : ByteArray := method_14_code
def yL_give : MethodName := ⟨RL, "give", "(LNecklaceSisters;II[J)I"⟩
abbrev cL_take : ByteArray := method_15_code
def yL_take : MethodName := ⟨RL, "take", "(LNecklaceSisters;I[J)I"⟩
abbrev cL_deal : ByteArray := method_16_code
def yL_deal : MethodName := ⟨RL, "deal", "(LNecklaceSisters;I[J)I"⟩
abbrev cL_divide : ByteArray := method_17_code
def yL_divide : MethodName := ⟨RL, "divide", "(LNecklaceSisters;[J)I"⟩
abbrev cL_set : ByteArray := method_18_code
def yL_set : MethodName := ⟨RL, "set", "(LNecklaceSisters;I[J)I"⟩
abbrev cL_undo : ByteArray := method_19_code
def yL_undo : MethodName := ⟨RL, "undo", "(LNecklaceSisters;[J)I"⟩
abbrev cL_fewest : ByteArray := method_20_code
def yL_fewest : MethodName := ⟨RL, "fewest", "(LNecklaceSisters;I[J)I"⟩
abbrev cL_divided : ByteArray := method_21_code
def yL_divided : MethodName := ⟨RL, "divided", "(LNecklaceSisters;I[J)I"⟩
abbrev cL_leastGap : ByteArray := method_22_code
def yL_leastGap : MethodName := ⟨RL, "leastGap", "(LNecklaceSisters;I[J)I"⟩
abbrev cL_ifGiven : ByteArray := method_23_code
def yL_ifGiven : MethodName := ⟨RL, "ifGiven", "(LNecklaceSisters;II[J)I"⟩
abbrev cL_runScript : ByteArray := method_24_code
def yL_runScript : MethodName := ⟨RL, "runScript", "(LNecklaceSisters;IJ[J)I"⟩
abbrev cL_simulate : ByteArray := method_25_code
def yL_simulate : MethodName := ⟨RL, "simulate", "(LNecklaceSisters;JI[J)I"⟩
abbrev cL_save : ByteArray := method_26_code
def yL_save : MethodName := ⟨RL, "save", "(LNecklaceSisters;I[J)I"⟩
abbrev cL_restore : ByteArray := method_27_code
def yL_restore : MethodName := ⟨RL, "restore", "(LNecklaceSisters;I[J)I"⟩
abbrev cL_law : ByteArray := code
def yL_law : MethodName := ⟨RL, "law", "([I)Z"⟩
abbrev vwCl : List vw_C := [(RX0, TX0, 4), (RX1, TX1, 3), (RX2, TX2, 9), (RX5, TX5, 2), (RX6, TX6, 2), (RX7, TX7, 7), (RX8, TX8, 13)]
end
section
theorem dX0_init_0 : decode cX0_init 0 = .ok (.aload_n 0, 1) := by decide +kernel
theorem dX0_init_1 : decode cX0_init 1 = .ok (.invokespecial 3, 3) := by decide +kernel
theorem dX0_init_4 : decode cX0_init 4 = .ok (.aload_n 0, 1) := by decide +kernel
theorem dX0_init_5 : decode cX0_init 5 = .ok (.bipush 17, 2) := by decide +kernel
theorem dX0_init_7 : decode cX0_init 7 = .ok (.newarray .long, 2) := by decide +kernel
theorem dX0_init_9 : decode cX0_init 9 = .ok (.putfield 9, 3) := by decide +kernel
theorem dX0_init_12 : decode cX0_init 12 = .ok (.aload_n 0, 1) := by decide +kernel
theorem dX0_init_13 : decode cX0_init 13 = .ok (.bipush 6, 2) := by decide +kernel
theorem dX0_init_15 : decode cX0_init 15 = .ok (.newarray .int, 2) := by decide +kernel
theorem dX0_init_17 : decode cX0_init 17 = .ok (.putfield 15, 3) := by decide +kernel
theorem dX0_init_20 : decode cX0_init 20 = .ok (.return_, 1) := by decide +kernel
theorem dX0_weigh_0 : decode cX0_weigh 0 = .ok (.aload_n 0, 1) := by decide +kernel
theorem dX0_weigh_1 : decode cX0_weigh 1 = .ok (.iconst 0, 1) := by decide +kernel
theorem dX0_weigh_2 : decode cX0_weigh 2 = .ok (.putfield 19, 3) := by decide +kernel
theorem dX0_weigh_5 : decode cX0_weigh 5 = .ok (.aload_n 0, 1) := by decide +kernel
theorem dX0_weigh_6 : decode cX0_weigh 6 = .ok (.lconst 0, 1) := by decide +kernel
theorem dX0_weigh_7 : decode cX0_weigh 7 = .ok (.putfield 23, 3) := by decide +kernel
theorem dX0_weigh_10 : decode cX0_weigh 10 = .ok (.aload_n 1, 1) := by decide +kernel
theorem dX0_weigh_11 : decode cX0_weigh 11 = .ok (.ifnonnull 4, 3) := by decide +kernel
theorem dX0_weigh_14 : decode cX0_weigh 14 = .ok (.return_, 1) := by decide +kernel
theorem dX0_weigh_15 : decode cX0_weigh 15 = .ok (.lconst 0, 1) := by decide +kernel
theorem dX0_weigh_16 : decode cX0_weigh 16 = .ok (.lstore_n 3, 1) := by decide +kernel
theorem dX0_weigh_17 : decode cX0_weigh 17 = .ok (.iconst 0, 1) := by decide +kernel
theorem dX0_weigh_18 : decode cX0_weigh 18 = .ok (.istore 5, 2) := by decide +kernel
theorem dX0_weigh_20 : decode cX0_weigh 20 = .ok (.iload 5, 2) := by decide +kernel
theorem dX0_weigh_22 : decode cX0_weigh 22 = .ok (.aload_n 1, 1) := by decide +kernel
theorem dX0_weigh_23 : decode cX0_weigh 23 = .ok (.getfield 27, 3) := by decide +kernel
theorem dX0_weigh_26 : decode cX0_weigh 26 = .ok (.if_icmp .ge 88, 3) := by decide +kernel
theorem dX0_weigh_29 : decode cX0_weigh 29 = .ok (.iload 5, 2) := by decide +kernel
theorem dX0_weigh_31 : decode cX0_weigh 31 = .ok (.iconst 1, 1) := by decide +kernel
theorem dX0_weigh_32 : decode cX0_weigh 32 = .ok (.iadd, 1) := by decide +kernel
theorem dX0_weigh_33 : decode cX0_weigh 33 = .ok (.aload_n 0, 1) := by decide +kernel
theorem dX0_weigh_34 : decode cX0_weigh 34 = .ok (.getfield 9, 3) := by decide +kernel
theorem dX0_weigh_37 : decode cX0_weigh 37 = .ok (.arraylength, 1) := by decide +kernel
theorem dX0_weigh_38 : decode cX0_weigh 38 = .ok (.if_icmp .ge 76, 3) := by decide +kernel
theorem dX0_weigh_41 : decode cX0_weigh 41 = .ok (.iload_n 2, 1) := by decide +kernel
theorem dX0_weigh_42 : decode cX0_weigh 42 = .ok (.iload 5, 2) := by decide +kernel
theorem dX0_weigh_44 : decode cX0_weigh 44 = .ok (.iadd, 1) := by decide +kernel
theorem dX0_weigh_45 : decode cX0_weigh 45 = .ok (.aload_n 1, 1) := by decide +kernel
theorem dX0_weigh_46 : decode cX0_weigh 46 = .ok (.getfield 27, 3) := by decide +kernel
theorem dX0_weigh_49 : decode cX0_weigh 49 = .ok (.if_icmp .ge 10, 3) := by decide +kernel
theorem dX0_weigh_52 : decode cX0_weigh 52 = .ok (.iload_n 2, 1) := by decide +kernel
theorem dX0_weigh_53 : decode cX0_weigh 53 = .ok (.iload 5, 2) := by decide +kernel
theorem dX0_weigh_55 : decode cX0_weigh 55 = .ok (.iadd, 1) := by decide +kernel
theorem dX0_weigh_56 : decode cX0_weigh 56 = .ok (.goto 12, 3) := by decide +kernel
theorem dX0_weigh_59 : decode cX0_weigh 59 = .ok (.iload_n 2, 1) := by decide +kernel
theorem dX0_weigh_60 : decode cX0_weigh 60 = .ok (.iload 5, 2) := by decide +kernel
theorem dX0_weigh_62 : decode cX0_weigh 62 = .ok (.iadd, 1) := by decide +kernel
theorem dX0_weigh_63 : decode cX0_weigh 63 = .ok (.aload_n 1, 1) := by decide +kernel
theorem dX0_weigh_64 : decode cX0_weigh 64 = .ok (.getfield 27, 3) := by decide +kernel
theorem dX0_weigh_67 : decode cX0_weigh 67 = .ok (.isub, 1) := by decide +kernel
theorem dX0_weigh_68 : decode cX0_weigh 68 = .ok (.istore 6, 2) := by decide +kernel
theorem dX0_weigh_70 : decode cX0_weigh 70 = .ok (.lload_n 3, 1) := by decide +kernel
theorem dX0_weigh_71 : decode cX0_weigh 71 = .ok (.aload_n 1, 1) := by decide +kernel
theorem dX0_weigh_72 : decode cX0_weigh 72 = .ok (.iload 6, 2) := by decide +kernel
theorem dX0_weigh_74 : decode cX0_weigh 74 = .ok (.invokevirtual 32, 3) := by decide +kernel
theorem dX0_weigh_77 : decode cX0_weigh 77 = .ok (.i2l, 1) := by decide +kernel
theorem dX0_weigh_78 : decode cX0_weigh 78 = .ok (.bipush 16, 2) := by decide +kernel
theorem dX0_weigh_80 : decode cX0_weigh 80 = .ok (.aload_n 1, 1) := by decide +kernel
theorem dX0_weigh_81 : decode cX0_weigh 81 = .ok (.iload 6, 2) := by decide +kernel
theorem dX0_weigh_83 : decode cX0_weigh 83 = .ok (.invokevirtual 36, 3) := by decide +kernel
theorem dX0_weigh_86 : decode cX0_weigh 86 = .ok (.imul, 1) := by decide +kernel
theorem dX0_weigh_87 : decode cX0_weigh 87 = .ok (.lshl, 1) := by decide +kernel
theorem dX0_weigh_88 : decode cX0_weigh 88 = .ok (.ladd, 1) := by decide +kernel
theorem dX0_weigh_89 : decode cX0_weigh 89 = .ok (.lstore_n 3, 1) := by decide +kernel
theorem dX0_weigh_90 : decode cX0_weigh 90 = .ok (.aload_n 0, 1) := by decide +kernel
theorem dX0_weigh_91 : decode cX0_weigh 91 = .ok (.getfield 9, 3) := by decide +kernel
theorem dX0_weigh_94 : decode cX0_weigh 94 = .ok (.iload 5, 2) := by decide +kernel
theorem dX0_weigh_96 : decode cX0_weigh 96 = .ok (.iconst 1, 1) := by decide +kernel
theorem dX0_weigh_97 : decode cX0_weigh 97 = .ok (.iadd, 1) := by decide +kernel
theorem dX0_weigh_98 : decode cX0_weigh 98 = .ok (.lload_n 3, 1) := by decide +kernel
theorem dX0_weigh_99 : decode cX0_weigh 99 = .ok (.lastore, 1) := by decide +kernel
theorem dX0_weigh_100 : decode cX0_weigh 100 = .ok (.aload_n 0, 1) := by decide +kernel
theorem dX0_weigh_101 : decode cX0_weigh 101 = .ok (.iload 5, 2) := by decide +kernel
theorem dX0_weigh_103 : decode cX0_weigh 103 = .ok (.iconst 1, 1) := by decide +kernel
theorem dX0_weigh_104 : decode cX0_weigh 104 = .ok (.iadd, 1) := by decide +kernel
theorem dX0_weigh_105 : decode cX0_weigh 105 = .ok (.putfield 19, 3) := by decide +kernel
theorem dX0_weigh_108 : decode cX0_weigh 108 = .ok (.iinc 5 1, 3) := by decide +kernel
theorem dX0_weigh_111 : decode cX0_weigh 111 = .ok (.goto (-91), 3) := by decide +kernel
theorem dX0_weigh_114 : decode cX0_weigh 114 = .ok (.aload_n 0, 1) := by decide +kernel
theorem dX0_weigh_115 : decode cX0_weigh 115 = .ok (.lload_n 3, 1) := by decide +kernel
theorem dX0_weigh_116 : decode cX0_weigh 116 = .ok (.iconst 1, 1) := by decide +kernel
theorem dX0_weigh_117 : decode cX0_weigh 117 = .ok (.lushr, 1) := by decide +kernel
theorem dX0_weigh_118 : decode cX0_weigh 118 = .ok (.putfield 23, 3) := by decide +kernel
theorem dX0_weigh_121 : decode cX0_weigh 121 = .ok (.return_, 1) := by decide +kernel
theorem dX0_sumAhead_0 : decode cX0_sumAhead 0 = .ok (.iload_n 1, 1) := by decide +kernel
theorem dX0_sumAhead_1 : decode cX0_sumAhead 1 = .ok (.ifCond .lt 21, 3) := by decide +kernel
theorem dX0_sumAhead_4 : decode cX0_sumAhead 4 = .ok (.iload_n 1, 1) := by decide +kernel
theorem dX0_sumAhead_5 : decode cX0_sumAhead 5 = .ok (.aload_n 0, 1) := by decide +kernel
theorem dX0_sumAhead_6 : decode cX0_sumAhead 6 = .ok (.getfield 9, 3) := by decide +kernel
theorem dX0_sumAhead_9 : decode cX0_sumAhead 9 = .ok (.arraylength, 1) := by decide +kernel
theorem dX0_sumAhead_10 : decode cX0_sumAhead 10 = .ok (.if_icmp .ge 12, 3) := by decide +kernel
theorem dX0_sumAhead_13 : decode cX0_sumAhead 13 = .ok (.aload_n 0, 1) := by decide +kernel
theorem dX0_sumAhead_14 : decode cX0_sumAhead 14 = .ok (.getfield 9, 3) := by decide +kernel
theorem dX0_sumAhead_17 : decode cX0_sumAhead 17 = .ok (.iload_n 1, 1) := by decide +kernel
theorem dX0_sumAhead_18 : decode cX0_sumAhead 18 = .ok (.laload, 1) := by decide +kernel
theorem dX0_sumAhead_19 : decode cX0_sumAhead 19 = .ok (.goto 4, 3) := by decide +kernel
theorem dX0_sumAhead_22 : decode cX0_sumAhead 22 = .ok (.lconst 0, 1) := by decide +kernel
theorem dX0_sumAhead_23 : decode cX0_sumAhead 23 = .ok (.lreturn, 1) := by decide +kernel
theorem dX0_isOddOfAKind_0 : decode cX0_isOddOfAKind 0 = .ok (.aload_n 0, 1) := by decide +kernel
theorem dX0_isOddOfAKind_1 : decode cX0_isOddOfAKind 1 = .ok (.aload_n 0, 1) := by decide +kernel
theorem dX0_isOddOfAKind_2 : decode cX0_isOddOfAKind 2 = .ok (.getfield 19, 3) := by decide +kernel
theorem dX0_isOddOfAKind_5 : decode cX0_isOddOfAKind 5 = .ok (.invokevirtual 39, 3) := by decide +kernel
theorem dX0_isOddOfAKind_8 : decode cX0_isOddOfAKind 8 = .ok (.ldc2_w 43, 3) := by decide +kernel
theorem dX0_isOddOfAKind_11 : decode cX0_isOddOfAKind 11 = .ok (.land, 1) := by decide +kernel
theorem dX0_isOddOfAKind_12 : decode cX0_isOddOfAKind 12 = .ok (.lconst 0, 1) := by decide +kernel
theorem dX0_isOddOfAKind_13 : decode cX0_isOddOfAKind 13 = .ok (.lcmp, 1) := by decide +kernel
theorem dX0_isOddOfAKind_14 : decode cX0_isOddOfAKind 14 = .ok (.ifCond .eq 7, 3) := by decide +kernel
theorem dX0_isOddOfAKind_17 : decode cX0_isOddOfAKind 17 = .ok (.iconst 1, 1) := by decide +kernel
theorem dX0_isOddOfAKind_18 : decode cX0_isOddOfAKind 18 = .ok (.goto 4, 3) := by decide +kernel
theorem dX0_isOddOfAKind_21 : decode cX0_isOddOfAKind 21 = .ok (.iconst 0, 1) := by decide +kernel
theorem dX0_isOddOfAKind_22 : decode cX0_isOddOfAKind 22 = .ok (.ireturn, 1) := by decide +kernel
theorem dX0_isOverHalf_0 : decode cX0_isOverHalf 0 = .ok (.aload_n 0, 1) := by decide +kernel
theorem dX0_isOverHalf_1 : decode cX0_isOverHalf 1 = .ok (.getfield 23, 3) := by decide +kernel
theorem dX0_isOverHalf_4 : decode cX0_isOverHalf 4 = .ok (.ldc2_w 45, 3) := by decide +kernel
theorem dX0_isOverHalf_7 : decode cX0_isOverHalf 7 = .ok (.lor, 1) := by decide +kernel
theorem dX0_isOverHalf_8 : decode cX0_isOverHalf 8 = .ok (.lload_n 1, 1) := by decide +kernel
theorem dX0_isOverHalf_9 : decode cX0_isOverHalf 9 = .ok (.lsub, 1) := by decide +kernel
theorem dX0_isOverHalf_10 : decode cX0_isOverHalf 10 = .ok (.ldc2_w 45, 3) := by decide +kernel
theorem dX0_isOverHalf_13 : decode cX0_isOverHalf 13 = .ok (.land, 1) := by decide +kernel
theorem dX0_isOverHalf_14 : decode cX0_isOverHalf 14 = .ok (.ldc2_w 45, 3) := by decide +kernel
theorem dX0_isOverHalf_17 : decode cX0_isOverHalf 17 = .ok (.lcmp, 1) := by decide +kernel
theorem dX0_isOverHalf_18 : decode cX0_isOverHalf 18 = .ok (.ifCond .eq 7, 3) := by decide +kernel
theorem dX0_isOverHalf_21 : decode cX0_isOverHalf 21 = .ok (.iconst 1, 1) := by decide +kernel
theorem dX0_isOverHalf_22 : decode cX0_isOverHalf 22 = .ok (.goto 4, 3) := by decide +kernel
theorem dX0_isOverHalf_25 : decode cX0_isOverHalf 25 = .ok (.iconst 0, 1) := by decide +kernel
theorem dX0_isOverHalf_26 : decode cX0_isOverHalf 26 = .ok (.ireturn, 1) := by decide +kernel
theorem dX0_keepCut_0 : decode cX0_keepCut 0 = .ok (.iload_n 1, 1) := by decide +kernel
theorem dX0_keepCut_1 : decode cX0_keepCut 1 = .ok (.ifCond .lt 19, 3) := by decide +kernel
theorem dX0_keepCut_4 : decode cX0_keepCut 4 = .ok (.iload_n 1, 1) := by decide +kernel
theorem dX0_keepCut_5 : decode cX0_keepCut 5 = .ok (.aload_n 0, 1) := by decide +kernel
theorem dX0_keepCut_6 : decode cX0_keepCut 6 = .ok (.getfield 15, 3) := by decide +kernel
theorem dX0_keepCut_9 : decode cX0_keepCut 9 = .ok (.arraylength, 1) := by decide +kernel
theorem dX0_keepCut_10 : decode cX0_keepCut 10 = .ok (.if_icmp .ge 10, 3) := by decide +kernel
theorem dX0_keepCut_13 : decode cX0_keepCut 13 = .ok (.aload_n 0, 1) := by decide +kernel
theorem dX0_keepCut_14 : decode cX0_keepCut 14 = .ok (.getfield 15, 3) := by decide +kernel
theorem dX0_keepCut_17 : decode cX0_keepCut 17 = .ok (.iload_n 1, 1) := by decide +kernel
theorem dX0_keepCut_18 : decode cX0_keepCut 18 = .ok (.iload_n 2, 1) := by decide +kernel
theorem dX0_keepCut_19 : decode cX0_keepCut 19 = .ok (.iastore, 1) := by decide +kernel
theorem dX0_keepCut_20 : decode cX0_keepCut 20 = .ok (.return_, 1) := by decide +kernel
theorem dX0_foundCut_0 : decode cX0_foundCut 0 = .ok (.iload_n 1, 1) := by decide +kernel
theorem dX0_foundCut_1 : decode cX0_foundCut 1 = .ok (.ifCond .lt 21, 3) := by decide +kernel
theorem dX0_foundCut_4 : decode cX0_foundCut 4 = .ok (.iload_n 1, 1) := by decide +kernel
theorem dX0_foundCut_5 : decode cX0_foundCut 5 = .ok (.aload_n 0, 1) := by decide +kernel
theorem dX0_foundCut_6 : decode cX0_foundCut 6 = .ok (.getfield 15, 3) := by decide +kernel
theorem dX0_foundCut_9 : decode cX0_foundCut 9 = .ok (.arraylength, 1) := by decide +kernel
theorem dX0_foundCut_10 : decode cX0_foundCut 10 = .ok (.if_icmp .ge 12, 3) := by decide +kernel
theorem dX0_foundCut_13 : decode cX0_foundCut 13 = .ok (.aload_n 0, 1) := by decide +kernel
theorem dX0_foundCut_14 : decode cX0_foundCut 14 = .ok (.getfield 15, 3) := by decide +kernel
theorem dX0_foundCut_17 : decode cX0_foundCut 17 = .ok (.iload_n 1, 1) := by decide +kernel
theorem dX0_foundCut_18 : decode cX0_foundCut 18 = .ok (.iaload, 1) := by decide +kernel
theorem dX0_foundCut_19 : decode cX0_foundCut 19 = .ok (.goto 4, 3) := by decide +kernel
theorem dX0_foundCut_22 : decode cX0_foundCut 22 = .ok (.iconst (-1), 1) := by decide +kernel
theorem dX0_foundCut_23 : decode cX0_foundCut 23 = .ok (.ireturn, 1) := by decide +kernel
theorem dX0_fewestByCuts_0 : decode cX0_fewestByCuts 0 = .ok (.aload_n 0, 1) := by decide +kernel
theorem dX0_fewestByCuts_1 : decode cX0_fewestByCuts 1 = .ok (.invokevirtual 47, 3) := by decide +kernel
theorem dX0_fewestByCuts_4 : decode cX0_fewestByCuts 4 = .ok (.ifCond .eq 5, 3) := by decide +kernel
theorem dX0_fewestByCuts_7 : decode cX0_fewestByCuts 7 = .ok (.iconst (-1), 1) := by decide +kernel
theorem dX0_fewestByCuts_8 : decode cX0_fewestByCuts 8 = .ok (.ireturn, 1) := by decide +kernel
theorem dX0_fewestByCuts_9 : decode cX0_fewestByCuts 9 = .ok (.iconst 0, 1) := by decide +kernel
theorem dX0_fewestByCuts_10 : decode cX0_fewestByCuts 10 = .ok (.istore_n 2, 1) := by decide +kernel
theorem dX0_fewestByCuts_11 : decode cX0_fewestByCuts 11 = .ok (.iload_n 2, 1) := by decide +kernel
theorem dX0_fewestByCuts_12 : decode cX0_fewestByCuts 12 = .ok (.iload_n 1, 1) := by decide +kernel
theorem dX0_fewestByCuts_13 : decode cX0_fewestByCuts 13 = .ok (.if_icmp .gt 28, 3) := by decide +kernel
theorem dX0_fewestByCuts_16 : decode cX0_fewestByCuts 16 = .ok (.iload_n 2, 1) := by decide +kernel
theorem dX0_fewestByCuts_17 : decode cX0_fewestByCuts 17 = .ok (.bipush 6, 2) := by decide +kernel
theorem dX0_fewestByCuts_19 : decode cX0_fewestByCuts 19 = .ok (.if_icmp .gt 22, 3) := by decide +kernel
theorem dX0_fewestByCuts_22 : decode cX0_fewestByCuts 22 = .ok (.aload_n 0, 1) := by decide +kernel
theorem dX0_fewestByCuts_23 : decode cX0_fewestByCuts 23 = .ok (.iload_n 2, 1) := by decide +kernel
theorem dX0_fewestByCuts_24 : decode cX0_fewestByCuts 24 = .ok (.iconst 0, 1) := by decide +kernel
theorem dX0_fewestByCuts_25 : decode cX0_fewestByCuts 25 = .ok (.iconst 0, 1) := by decide +kernel
theorem dX0_fewestByCuts_26 : decode cX0_fewestByCuts 26 = .ok (.lconst 0, 1) := by decide +kernel
theorem dX0_fewestByCuts_27 : decode cX0_fewestByCuts 27 = .ok (.invokestatic 51, 3) := by decide +kernel
theorem dX0_fewestByCuts_30 : decode cX0_fewestByCuts 30 = .ok (.ifCond .eq 5, 3) := by decide +kernel
theorem dX0_fewestByCuts_33 : decode cX0_fewestByCuts 33 = .ok (.iload_n 2, 1) := by decide +kernel
theorem dX0_fewestByCuts_34 : decode cX0_fewestByCuts 34 = .ok (.ireturn, 1) := by decide +kernel
theorem dX0_fewestByCuts_35 : decode cX0_fewestByCuts 35 = .ok (.iinc 2 1, 3) := by decide +kernel
theorem dX0_fewestByCuts_38 : decode cX0_fewestByCuts 38 = .ok (.goto (-27), 3) := by decide +kernel
theorem dX0_fewestByCuts_41 : decode cX0_fewestByCuts 41 = .ok (.iconst (-1), 1) := by decide +kernel
theorem dX0_fewestByCuts_42 : decode cX0_fewestByCuts 42 = .ok (.ireturn, 1) := by decide +kernel
theorem dX0_withRun_0 : decode cX0_withRun 0 = .ok (.iload_n 3, 1) := by decide +kernel
theorem dX0_withRun_1 : decode cX0_withRun 1 = .ok (.iconst 1, 1) := by decide +kernel
theorem dX0_withRun_2 : decode cX0_withRun 2 = .ok (.iand, 1) := by decide +kernel
theorem dX0_withRun_3 : decode cX0_withRun 3 = .ok (.ifCond .ne 21, 3) := by decide +kernel
theorem dX0_withRun_6 : decode cX0_withRun 6 = .ok (.lload_n 1, 1) := by decide +kernel
theorem dX0_withRun_7 : decode cX0_withRun 7 = .ok (.aload_n 0, 1) := by decide +kernel
theorem dX0_withRun_8 : decode cX0_withRun 8 = .ok (.iload 5, 2) := by decide +kernel
theorem dX0_withRun_10 : decode cX0_withRun 10 = .ok (.invokevirtual 39, 3) := by decide +kernel
theorem dX0_withRun_13 : decode cX0_withRun 13 = .ok (.ladd, 1) := by decide +kernel
theorem dX0_withRun_14 : decode cX0_withRun 14 = .ok (.aload_n 0, 1) := by decide +kernel
theorem dX0_withRun_15 : decode cX0_withRun 15 = .ok (.iload 4, 2) := by decide +kernel
theorem dX0_withRun_17 : decode cX0_withRun 17 = .ok (.invokevirtual 39, 3) := by decide +kernel
theorem dX0_withRun_20 : decode cX0_withRun 20 = .ok (.lsub, 1) := by decide +kernel
theorem dX0_withRun_21 : decode cX0_withRun 21 = .ok (.goto 4, 3) := by decide +kernel
theorem dX0_withRun_24 : decode cX0_withRun 24 = .ok (.lload_n 1, 1) := by decide +kernel
theorem dX0_withRun_25 : decode cX0_withRun 25 = .ok (.lreturn, 1) := by decide +kernel
theorem dX0_dividesWith_0 : decode cX0_dividesWith 0 = .ok (.iload_n 2, 1) := by decide +kernel
theorem dX0_dividesWith_1 : decode cX0_dividesWith 1 = .ok (.iload_n 1, 1) := by decide +kernel
theorem dX0_dividesWith_2 : decode cX0_dividesWith 2 = .ok (.if_icmp .lt 29, 3) := by decide +kernel
theorem dX0_dividesWith_5 : decode cX0_dividesWith 5 = .ok (.aload_n 0, 1) := by decide +kernel
theorem dX0_dividesWith_6 : decode cX0_dividesWith 6 = .ok (.lload 4, 2) := by decide +kernel
theorem dX0_dividesWith_8 : decode cX0_dividesWith 8 = .ok (.iload_n 2, 1) := by decide +kernel
theorem dX0_dividesWith_9 : decode cX0_dividesWith 9 = .ok (.iload_n 3, 1) := by decide +kernel
theorem dX0_dividesWith_10 : decode cX0_dividesWith 10 = .ok (.aload_n 0, 1) := by decide +kernel
theorem dX0_dividesWith_11 : decode cX0_dividesWith 11 = .ok (.getfield 19, 3) := by decide +kernel
theorem dX0_dividesWith_14 : decode cX0_dividesWith 14 = .ok (.invokevirtual 55, 3) := by decide +kernel
theorem dX0_dividesWith_17 : decode cX0_dividesWith 17 = .ok (.aload_n 0, 1) := by decide +kernel
theorem dX0_dividesWith_18 : decode cX0_dividesWith 18 = .ok (.getfield 23, 3) := by decide +kernel
theorem dX0_dividesWith_21 : decode cX0_dividesWith 21 = .ok (.lcmp, 1) := by decide +kernel
theorem dX0_dividesWith_22 : decode cX0_dividesWith 22 = .ok (.ifCond .ne 7, 3) := by decide +kernel
theorem dX0_dividesWith_25 : decode cX0_dividesWith 25 = .ok (.iconst 1, 1) := by decide +kernel
theorem dX0_dividesWith_26 : decode cX0_dividesWith 26 = .ok (.goto 4, 3) := by decide +kernel
theorem dX0_dividesWith_29 : decode cX0_dividesWith 29 = .ok (.iconst 0, 1) := by decide +kernel
theorem dX0_dividesWith_30 : decode cX0_dividesWith 30 = .ok (.ireturn, 1) := by decide +kernel
theorem dX0_dividesWith_31 : decode cX0_dividesWith 31 = .ok (.iload_n 3, 1) := by decide +kernel
theorem dX0_dividesWith_32 : decode cX0_dividesWith 32 = .ok (.iconst 1, 1) := by decide +kernel
theorem dX0_dividesWith_33 : decode cX0_dividesWith 33 = .ok (.iadd, 1) := by decide +kernel
theorem dX0_dividesWith_34 : decode cX0_dividesWith 34 = .ok (.istore 6, 2) := by decide +kernel
theorem dX0_dividesWith_36 : decode cX0_dividesWith 36 = .ok (.iload 6, 2) := by decide +kernel
theorem dX0_dividesWith_38 : decode cX0_dividesWith 38 = .ok (.aload_n 0, 1) := by decide +kernel
theorem dX0_dividesWith_39 : decode cX0_dividesWith 39 = .ok (.getfield 19, 3) := by decide +kernel
theorem dX0_dividesWith_42 : decode cX0_dividesWith 42 = .ok (.if_icmp .ge 72, 3) := by decide +kernel
theorem dX0_dividesWith_45 : decode cX0_dividesWith 45 = .ok (.aload_n 0, 1) := by decide +kernel
theorem dX0_dividesWith_46 : decode cX0_dividesWith 46 = .ok (.lload 4, 2) := by decide +kernel
theorem dX0_dividesWith_48 : decode cX0_dividesWith 48 = .ok (.iload_n 2, 1) := by decide +kernel
theorem dX0_dividesWith_49 : decode cX0_dividesWith 49 = .ok (.iload_n 3, 1) := by decide +kernel
theorem dX0_dividesWith_50 : decode cX0_dividesWith 50 = .ok (.iload 6, 2) := by decide +kernel
theorem dX0_dividesWith_52 : decode cX0_dividesWith 52 = .ok (.invokevirtual 55, 3) := by decide +kernel
theorem dX0_dividesWith_55 : decode cX0_dividesWith 55 = .ok (.lstore 7, 2) := by decide +kernel
theorem dX0_dividesWith_57 : decode cX0_dividesWith 57 = .ok (.aload_n 0, 1) := by decide +kernel
theorem dX0_dividesWith_58 : decode cX0_dividesWith 58 = .ok (.lload 7, 2) := by decide +kernel
theorem dX0_dividesWith_60 : decode cX0_dividesWith 60 = .ok (.invokevirtual 59, 3) := by decide +kernel
theorem dX0_dividesWith_63 : decode cX0_dividesWith 63 = .ok (.ifCond .ne 19, 3) := by decide +kernel
theorem dX0_dividesWith_66 : decode cX0_dividesWith 66 = .ok (.aload_n 0, 1) := by decide +kernel
theorem dX0_dividesWith_67 : decode cX0_dividesWith 67 = .ok (.aload_n 0, 1) := by decide +kernel
theorem dX0_dividesWith_68 : decode cX0_dividesWith 68 = .ok (.iload 6, 2) := by decide +kernel
theorem dX0_dividesWith_70 : decode cX0_dividesWith 70 = .ok (.invokevirtual 39, 3) := by decide +kernel
theorem dX0_dividesWith_73 : decode cX0_dividesWith 73 = .ok (.lload 7, 2) := by decide +kernel
theorem dX0_dividesWith_75 : decode cX0_dividesWith 75 = .ok (.lsub, 1) := by decide +kernel
theorem dX0_dividesWith_76 : decode cX0_dividesWith 76 = .ok (.invokevirtual 59, 3) := by decide +kernel
theorem dX0_dividesWith_79 : decode cX0_dividesWith 79 = .ok (.ifCond .eq 5, 3) := by decide +kernel
theorem dX0_dividesWith_82 : decode cX0_dividesWith 82 = .ok (.iconst 0, 1) := by decide +kernel
theorem dX0_dividesWith_83 : decode cX0_dividesWith 83 = .ok (.ireturn, 1) := by decide +kernel
theorem dX0_dividesWith_84 : decode cX0_dividesWith 84 = .ok (.aload_n 0, 1) := by decide +kernel
theorem dX0_dividesWith_85 : decode cX0_dividesWith 85 = .ok (.iload_n 1, 1) := by decide +kernel
theorem dX0_dividesWith_86 : decode cX0_dividesWith 86 = .ok (.iload_n 2, 1) := by decide +kernel
theorem dX0_dividesWith_87 : decode cX0_dividesWith 87 = .ok (.iconst 1, 1) := by decide +kernel
theorem dX0_dividesWith_88 : decode cX0_dividesWith 88 = .ok (.iadd, 1) := by decide +kernel
theorem dX0_dividesWith_89 : decode cX0_dividesWith 89 = .ok (.iload 6, 2) := by decide +kernel
theorem dX0_dividesWith_91 : decode cX0_dividesWith 91 = .ok (.lload 7, 2) := by decide +kernel
theorem dX0_dividesWith_93 : decode cX0_dividesWith 93 = .ok (.invokestatic 51, 3) := by decide +kernel
theorem dX0_dividesWith_96 : decode cX0_dividesWith 96 = .ok (.ifCond .eq 12, 3) := by decide +kernel
theorem dX0_dividesWith_99 : decode cX0_dividesWith 99 = .ok (.aload_n 0, 1) := by decide +kernel
theorem dX0_dividesWith_100 : decode cX0_dividesWith 100 = .ok (.iload_n 2, 1) := by decide +kernel
theorem dX0_dividesWith_101 : decode cX0_dividesWith 101 = .ok (.iload 6, 2) := by decide +kernel
theorem dX0_dividesWith_103 : decode cX0_dividesWith 103 = .ok (.invokevirtual 63, 3) := by decide +kernel
theorem dX0_dividesWith_106 : decode cX0_dividesWith 106 = .ok (.iconst 1, 1) := by decide +kernel
theorem dX0_dividesWith_107 : decode cX0_dividesWith 107 = .ok (.ireturn, 1) := by decide +kernel
theorem dX0_dividesWith_108 : decode cX0_dividesWith 108 = .ok (.iinc 6 1, 3) := by decide +kernel
theorem dX0_dividesWith_111 : decode cX0_dividesWith 111 = .ok (.goto (-75), 3) := by decide +kernel
theorem dX0_dividesWith_114 : decode cX0_dividesWith 114 = .ok (.iconst 0, 1) := by decide +kernel
theorem dX0_dividesWith_115 : decode cX0_dividesWith 115 = .ok (.ireturn, 1) := by decide +kernel
theorem dX0_fewestByOwners_0 : decode cX0_fewestByOwners 0 = .ok (.aload_n 0, 1) := by decide +kernel
theorem dX0_fewestByOwners_1 : decode cX0_fewestByOwners 1 = .ok (.getfield 19, 3) := by decide +kernel
theorem dX0_fewestByOwners_4 : decode cX0_fewestByOwners 4 = .ok (.ifCond .ne 5, 3) := by decide +kernel
theorem dX0_fewestByOwners_7 : decode cX0_fewestByOwners 7 = .ok (.iconst 0, 1) := by decide +kernel
theorem dX0_fewestByOwners_8 : decode cX0_fewestByOwners 8 = .ok (.ireturn, 1) := by decide +kernel
theorem dX0_fewestByOwners_9 : decode cX0_fewestByOwners 9 = .ok (.aload_n 0, 1) := by decide +kernel
theorem dX0_fewestByOwners_10 : decode cX0_fewestByOwners 10 = .ok (.invokevirtual 47, 3) := by decide +kernel
theorem dX0_fewestByOwners_13 : decode cX0_fewestByOwners 13 = .ok (.ifCond .eq 5, 3) := by decide +kernel
theorem dX0_fewestByOwners_16 : decode cX0_fewestByOwners 16 = .ok (.iconst (-1), 1) := by decide +kernel
theorem dX0_fewestByOwners_17 : decode cX0_fewestByOwners 17 = .ok (.ireturn, 1) := by decide +kernel
theorem dX0_fewestByOwners_18 : decode cX0_fewestByOwners 18 = .ok (.bipush 7, 2) := by decide +kernel
theorem dX0_fewestByOwners_20 : decode cX0_fewestByOwners 20 = .ok (.istore_n 1, 1) := by decide +kernel
theorem dX0_fewestByOwners_21 : decode cX0_fewestByOwners 21 = .ok (.iconst 0, 1) := by decide +kernel
theorem dX0_fewestByOwners_22 : decode cX0_fewestByOwners 22 = .ok (.istore_n 2, 1) := by decide +kernel
theorem dX0_fewestByOwners_23 : decode cX0_fewestByOwners 23 = .ok (.lconst 0, 1) := by decide +kernel
theorem dX0_fewestByOwners_24 : decode cX0_fewestByOwners 24 = .ok (.lstore_n 3, 1) := by decide +kernel
theorem dX0_fewestByOwners_25 : decode cX0_fewestByOwners 25 = .ok (.iconst 1, 1) := by decide +kernel
theorem dX0_fewestByOwners_26 : decode cX0_fewestByOwners 26 = .ok (.istore 5, 2) := by decide +kernel
theorem dX0_fewestByOwners_28 : decode cX0_fewestByOwners 28 = .ok (.iload 5, 2) := by decide +kernel
theorem dX0_fewestByOwners_30 : decode cX0_fewestByOwners 30 = .ok (.iconst 1, 1) := by decide +kernel
theorem dX0_fewestByOwners_31 : decode cX0_fewestByOwners 31 = .ok (.aload_n 0, 1) := by decide +kernel
theorem dX0_fewestByOwners_32 : decode cX0_fewestByOwners 32 = .ok (.getfield 19, 3) := by decide +kernel
theorem dX0_fewestByOwners_35 : decode cX0_fewestByOwners 35 = .ok (.iconst 1, 1) := by decide +kernel
theorem dX0_fewestByOwners_36 : decode cX0_fewestByOwners 36 = .ok (.isub, 1) := by decide +kernel
theorem dX0_fewestByOwners_37 : decode cX0_fewestByOwners 37 = .ok (.ishl, 1) := by decide +kernel
theorem dX0_fewestByOwners_38 : decode cX0_fewestByOwners 38 = .ok (.if_icmp .ge 82, 3) := by decide +kernel
theorem dX0_fewestByOwners_41 : decode cX0_fewestByOwners 41 = .ok (.iload 5, 2) := by decide +kernel
theorem dX0_fewestByOwners_43 : decode cX0_fewestByOwners 43 = .ok (.invokestatic 67, 3) := by decide +kernel
theorem dX0_fewestByOwners_46 : decode cX0_fewestByOwners 46 = .ok (.istore 6, 2) := by decide +kernel
theorem dX0_fewestByOwners_48 : decode cX0_fewestByOwners 48 = .ok (.aload_n 0, 1) := by decide +kernel
theorem dX0_fewestByOwners_49 : decode cX0_fewestByOwners 49 = .ok (.iload 6, 2) := by decide +kernel
theorem dX0_fewestByOwners_51 : decode cX0_fewestByOwners 51 = .ok (.iconst 1, 1) := by decide +kernel
theorem dX0_fewestByOwners_52 : decode cX0_fewestByOwners 52 = .ok (.iadd, 1) := by decide +kernel
theorem dX0_fewestByOwners_53 : decode cX0_fewestByOwners 53 = .ok (.invokevirtual 39, 3) := by decide +kernel
theorem dX0_fewestByOwners_56 : decode cX0_fewestByOwners 56 = .ok (.aload_n 0, 1) := by decide +kernel
theorem dX0_fewestByOwners_57 : decode cX0_fewestByOwners 57 = .ok (.iload 6, 2) := by decide +kernel
theorem dX0_fewestByOwners_59 : decode cX0_fewestByOwners 59 = .ok (.invokevirtual 39, 3) := by decide +kernel
theorem dX0_fewestByOwners_62 : decode cX0_fewestByOwners 62 = .ok (.lsub, 1) := by decide +kernel
theorem dX0_fewestByOwners_63 : decode cX0_fewestByOwners 63 = .ok (.lstore 7, 2) := by decide +kernel
theorem dX0_fewestByOwners_65 : decode cX0_fewestByOwners 65 = .ok (.iload_n 2, 1) := by decide +kernel
theorem dX0_fewestByOwners_66 : decode cX0_fewestByOwners 66 = .ok (.iconst 1, 1) := by decide +kernel
theorem dX0_fewestByOwners_67 : decode cX0_fewestByOwners 67 = .ok (.iload 6, 2) := by decide +kernel
theorem dX0_fewestByOwners_69 : decode cX0_fewestByOwners 69 = .ok (.ishl, 1) := by decide +kernel
theorem dX0_fewestByOwners_70 : decode cX0_fewestByOwners 70 = .ok (.ixor, 1) := by decide +kernel
theorem dX0_fewestByOwners_71 : decode cX0_fewestByOwners 71 = .ok (.istore_n 2, 1) := by decide +kernel
theorem dX0_fewestByOwners_72 : decode cX0_fewestByOwners 72 = .ok (.lload_n 3, 1) := by decide +kernel
theorem dX0_fewestByOwners_73 : decode cX0_fewestByOwners 73 = .ok (.iload_n 2, 1) := by decide +kernel
theorem dX0_fewestByOwners_74 : decode cX0_fewestByOwners 74 = .ok (.iload 6, 2) := by decide +kernel
theorem dX0_fewestByOwners_76 : decode cX0_fewestByOwners 76 = .ok (.iushr, 1) := by decide +kernel
theorem dX0_fewestByOwners_77 : decode cX0_fewestByOwners 77 = .ok (.iconst 1, 1) := by decide +kernel
theorem dX0_fewestByOwners_78 : decode cX0_fewestByOwners 78 = .ok (.iand, 1) := by decide +kernel
theorem dX0_fewestByOwners_79 : decode cX0_fewestByOwners 79 = .ok (.ifCond .eq 8, 3) := by decide +kernel
theorem dX0_fewestByOwners_82 : decode cX0_fewestByOwners 82 = .ok (.lload 7, 2) := by decide +kernel
theorem dX0_fewestByOwners_84 : decode cX0_fewestByOwners 84 = .ok (.goto 6, 3) := by decide +kernel
theorem dX0_fewestByOwners_87 : decode cX0_fewestByOwners 87 = .ok (.lload 7, 2) := by decide +kernel
theorem dX0_fewestByOwners_89 : decode cX0_fewestByOwners 89 = .ok (.lneg, 1) := by decide +kernel
theorem dX0_fewestByOwners_90 : decode cX0_fewestByOwners 90 = .ok (.ladd, 1) := by decide +kernel
theorem dX0_fewestByOwners_91 : decode cX0_fewestByOwners 91 = .ok (.lstore_n 3, 1) := by decide +kernel
theorem dX0_fewestByOwners_92 : decode cX0_fewestByOwners 92 = .ok (.lload_n 3, 1) := by decide +kernel
theorem dX0_fewestByOwners_93 : decode cX0_fewestByOwners 93 = .ok (.aload_n 0, 1) := by decide +kernel
theorem dX0_fewestByOwners_94 : decode cX0_fewestByOwners 94 = .ok (.getfield 23, 3) := by decide +kernel
theorem dX0_fewestByOwners_97 : decode cX0_fewestByOwners 97 = .ok (.lcmp, 1) := by decide +kernel
theorem dX0_fewestByOwners_98 : decode cX0_fewestByOwners 98 = .ok (.ifCond .ne 16, 3) := by decide +kernel
theorem dX0_fewestByOwners_101 : decode cX0_fewestByOwners 101 = .ok (.iload_n 1, 1) := by decide +kernel
theorem dX0_fewestByOwners_102 : decode cX0_fewestByOwners 102 = .ok (.iload_n 2, 1) := by decide +kernel
theorem dX0_fewestByOwners_103 : decode cX0_fewestByOwners 103 = .ok (.iload_n 2, 1) := by decide +kernel
theorem dX0_fewestByOwners_104 : decode cX0_fewestByOwners 104 = .ok (.iconst 1, 1) := by decide +kernel
theorem dX0_fewestByOwners_105 : decode cX0_fewestByOwners 105 = .ok (.iushr, 1) := by decide +kernel
theorem dX0_fewestByOwners_106 : decode cX0_fewestByOwners 106 = .ok (.ixor, 1) := by decide +kernel
theorem dX0_fewestByOwners_107 : decode cX0_fewestByOwners 107 = .ok (.invokestatic 72, 3) := by decide +kernel
theorem dX0_fewestByOwners_110 : decode cX0_fewestByOwners 110 = .ok (.invokestatic 75, 3) := by decide +kernel
theorem dX0_fewestByOwners_113 : decode cX0_fewestByOwners 113 = .ok (.istore_n 1, 1) := by decide +kernel
theorem dX0_fewestByOwners_114 : decode cX0_fewestByOwners 114 = .ok (.iinc 5 1, 3) := by decide +kernel
theorem dX0_fewestByOwners_117 : decode cX0_fewestByOwners 117 = .ok (.goto (-89), 3) := by decide +kernel
theorem dX0_fewestByOwners_120 : decode cX0_fewestByOwners 120 = .ok (.iload_n 1, 1) := by decide +kernel
theorem dX0_fewestByOwners_121 : decode cX0_fewestByOwners 121 = .ok (.bipush 6, 2) := by decide +kernel
theorem dX0_fewestByOwners_123 : decode cX0_fewestByOwners 123 = .ok (.if_icmp .le 7, 3) := by decide +kernel
theorem dX0_fewestByOwners_126 : decode cX0_fewestByOwners 126 = .ok (.iconst (-1), 1) := by decide +kernel
theorem dX0_fewestByOwners_127 : decode cX0_fewestByOwners 127 = .ok (.goto 4, 3) := by decide +kernel
theorem dX0_fewestByOwners_130 : decode cX0_fewestByOwners 130 = .ok (.iload_n 1, 1) := by decide +kernel
theorem dX0_fewestByOwners_131 : decode cX0_fewestByOwners 131 = .ok (.ireturn, 1) := by decide +kernel
theorem dX0_leastGapWithin_0 : decode cX0_leastGapWithin 0 = .ok (.aload_n 0, 1) := by decide +kernel
theorem dX0_leastGapWithin_1 : decode cX0_leastGapWithin 1 = .ok (.iload_n 1, 1) := by decide +kernel
theorem dX0_leastGapWithin_2 : decode cX0_leastGapWithin 2 = .ok (.iconst 0, 1) := by decide +kernel
theorem dX0_leastGapWithin_3 : decode cX0_leastGapWithin 3 = .ok (.iconst 0, 1) := by decide +kernel
theorem dX0_leastGapWithin_4 : decode cX0_leastGapWithin 4 = .ok (.lconst 0, 1) := by decide +kernel
theorem dX0_leastGapWithin_5 : decode cX0_leastGapWithin 5 = .ok (.invokestatic 81, 3) := by decide +kernel
theorem dX0_leastGapWithin_8 : decode cX0_leastGapWithin 8 = .ok (.ireturn, 1) := by decide +kernel
theorem dX0_leastFrom_0 : decode cX0_leastFrom 0 = .ok (.aload_n 0, 1) := by decide +kernel
theorem dX0_leastFrom_1 : decode cX0_leastFrom 1 = .ok (.aload_n 0, 1) := by decide +kernel
theorem dX0_leastFrom_2 : decode cX0_leastFrom 2 = .ok (.lload 4, 2) := by decide +kernel
theorem dX0_leastFrom_4 : decode cX0_leastFrom 4 = .ok (.iload_n 2, 1) := by decide +kernel
theorem dX0_leastFrom_5 : decode cX0_leastFrom 5 = .ok (.iload_n 3, 1) := by decide +kernel
theorem dX0_leastFrom_6 : decode cX0_leastFrom 6 = .ok (.aload_n 0, 1) := by decide +kernel
theorem dX0_leastFrom_7 : decode cX0_leastFrom 7 = .ok (.getfield 19, 3) := by decide +kernel
theorem dX0_leastFrom_10 : decode cX0_leastFrom 10 = .ok (.invokevirtual 55, 3) := by decide +kernel
theorem dX0_leastFrom_13 : decode cX0_leastFrom 13 = .ok (.invokevirtual 85, 3) := by decide +kernel
theorem dX0_leastFrom_16 : decode cX0_leastFrom 16 = .ok (.istore 6, 2) := by decide +kernel
theorem dX0_leastFrom_18 : decode cX0_leastFrom 18 = .ok (.iload_n 3, 1) := by decide +kernel
theorem dX0_leastFrom_19 : decode cX0_leastFrom 19 = .ok (.iconst 1, 1) := by decide +kernel
theorem dX0_leastFrom_20 : decode cX0_leastFrom 20 = .ok (.iadd, 1) := by decide +kernel
theorem dX0_leastFrom_21 : decode cX0_leastFrom 21 = .ok (.istore 7, 2) := by decide +kernel
theorem dX0_leastFrom_23 : decode cX0_leastFrom 23 = .ok (.iload_n 2, 1) := by decide +kernel
theorem dX0_leastFrom_24 : decode cX0_leastFrom 24 = .ok (.iload_n 1, 1) := by decide +kernel
theorem dX0_leastFrom_25 : decode cX0_leastFrom 25 = .ok (.if_icmp .ge 45, 3) := by decide +kernel
theorem dX0_leastFrom_28 : decode cX0_leastFrom 28 = .ok (.iload 7, 2) := by decide +kernel
theorem dX0_leastFrom_30 : decode cX0_leastFrom 30 = .ok (.aload_n 0, 1) := by decide +kernel
theorem dX0_leastFrom_31 : decode cX0_leastFrom 31 = .ok (.getfield 19, 3) := by decide +kernel
theorem dX0_leastFrom_34 : decode cX0_leastFrom 34 = .ok (.if_icmp .ge 36, 3) := by decide +kernel
theorem dX0_leastFrom_37 : decode cX0_leastFrom 37 = .ok (.iload 6, 2) := by decide +kernel
theorem dX0_leastFrom_39 : decode cX0_leastFrom 39 = .ok (.aload_n 0, 1) := by decide +kernel
theorem dX0_leastFrom_40 : decode cX0_leastFrom 40 = .ok (.iload_n 1, 1) := by decide +kernel
theorem dX0_leastFrom_41 : decode cX0_leastFrom 41 = .ok (.iload_n 2, 1) := by decide +kernel
theorem dX0_leastFrom_42 : decode cX0_leastFrom 42 = .ok (.iconst 1, 1) := by decide +kernel
theorem dX0_leastFrom_43 : decode cX0_leastFrom 43 = .ok (.iadd, 1) := by decide +kernel
theorem dX0_leastFrom_44 : decode cX0_leastFrom 44 = .ok (.iload 7, 2) := by decide +kernel
theorem dX0_leastFrom_46 : decode cX0_leastFrom 46 = .ok (.aload_n 0, 1) := by decide +kernel
theorem dX0_leastFrom_47 : decode cX0_leastFrom 47 = .ok (.lload 4, 2) := by decide +kernel
theorem dX0_leastFrom_49 : decode cX0_leastFrom 49 = .ok (.iload_n 2, 1) := by decide +kernel
theorem dX0_leastFrom_50 : decode cX0_leastFrom 50 = .ok (.iload_n 3, 1) := by decide +kernel
theorem dX0_leastFrom_51 : decode cX0_leastFrom 51 = .ok (.iload 7, 2) := by decide +kernel
theorem dX0_leastFrom_53 : decode cX0_leastFrom 53 = .ok (.invokevirtual 55, 3) := by decide +kernel
theorem dX0_leastFrom_56 : decode cX0_leastFrom 56 = .ok (.invokestatic 81, 3) := by decide +kernel
theorem dX0_leastFrom_59 : decode cX0_leastFrom 59 = .ok (.invokestatic 75, 3) := by decide +kernel
theorem dX0_leastFrom_62 : decode cX0_leastFrom 62 = .ok (.istore 6, 2) := by decide +kernel
theorem dX0_leastFrom_64 : decode cX0_leastFrom 64 = .ok (.iinc 7 1, 3) := by decide +kernel
theorem dX0_leastFrom_67 : decode cX0_leastFrom 67 = .ok (.goto (-44), 3) := by decide +kernel
theorem dX0_leastFrom_70 : decode cX0_leastFrom 70 = .ok (.iload 6, 2) := by decide +kernel
theorem dX0_leastFrom_72 : decode cX0_leastFrom 72 = .ok (.ireturn, 1) := by decide +kernel
theorem dX0_gapOf_0 : decode cX0_gapOf 0 = .ok (.aload_n 0, 1) := by decide +kernel
theorem dX0_gapOf_1 : decode cX0_gapOf 1 = .ok (.aload_n 0, 1) := by decide +kernel
theorem dX0_gapOf_2 : decode cX0_gapOf 2 = .ok (.getfield 19, 3) := by decide +kernel
theorem dX0_gapOf_5 : decode cX0_gapOf 5 = .ok (.invokevirtual 39, 3) := by decide +kernel
theorem dX0_gapOf_8 : decode cX0_gapOf 8 = .ok (.lstore_n 3, 1) := by decide +kernel
theorem dX0_gapOf_9 : decode cX0_gapOf 9 = .ok (.iconst 0, 1) := by decide +kernel
theorem dX0_gapOf_10 : decode cX0_gapOf 10 = .ok (.istore 5, 2) := by decide +kernel
theorem dX0_gapOf_12 : decode cX0_gapOf 12 = .ok (.iconst 0, 1) := by decide +kernel
theorem dX0_gapOf_13 : decode cX0_gapOf 13 = .ok (.istore 6, 2) := by decide +kernel
theorem dX0_gapOf_15 : decode cX0_gapOf 15 = .ok (.iload 6, 2) := by decide +kernel
theorem dX0_gapOf_17 : decode cX0_gapOf 17 = .ok (.iconst 4, 1) := by decide +kernel
theorem dX0_gapOf_18 : decode cX0_gapOf 18 = .ok (.if_icmp .ge 50, 3) := by decide +kernel
theorem dX0_gapOf_21 : decode cX0_gapOf 21 = .ok (.lload_n 3, 1) := by decide +kernel
theorem dX0_gapOf_22 : decode cX0_gapOf 22 = .ok (.bipush 16, 2) := by decide +kernel
theorem dX0_gapOf_24 : decode cX0_gapOf 24 = .ok (.iload 6, 2) := by decide +kernel
theorem dX0_gapOf_26 : decode cX0_gapOf 26 = .ok (.imul, 1) := by decide +kernel
theorem dX0_gapOf_27 : decode cX0_gapOf 27 = .ok (.lushr, 1) := by decide +kernel
theorem dX0_gapOf_28 : decode cX0_gapOf 28 = .ok (.l2i, 1) := by decide +kernel
theorem dX0_gapOf_29 : decode cX0_gapOf 29 = .ok (.ldc 89, 2) := by decide +kernel
theorem dX0_gapOf_31 : decode cX0_gapOf 31 = .ok (.iand, 1) := by decide +kernel
theorem dX0_gapOf_32 : decode cX0_gapOf 32 = .ok (.istore 7, 2) := by decide +kernel
theorem dX0_gapOf_34 : decode cX0_gapOf 34 = .ok (.lload_n 1, 1) := by decide +kernel
theorem dX0_gapOf_35 : decode cX0_gapOf 35 = .ok (.bipush 16, 2) := by decide +kernel
theorem dX0_gapOf_37 : decode cX0_gapOf 37 = .ok (.iload 6, 2) := by decide +kernel
theorem dX0_gapOf_39 : decode cX0_gapOf 39 = .ok (.imul, 1) := by decide +kernel
theorem dX0_gapOf_40 : decode cX0_gapOf 40 = .ok (.lushr, 1) := by decide +kernel
theorem dX0_gapOf_41 : decode cX0_gapOf 41 = .ok (.l2i, 1) := by decide +kernel
theorem dX0_gapOf_42 : decode cX0_gapOf 42 = .ok (.ldc 89, 2) := by decide +kernel
theorem dX0_gapOf_44 : decode cX0_gapOf 44 = .ok (.iand, 1) := by decide +kernel
theorem dX0_gapOf_45 : decode cX0_gapOf 45 = .ok (.istore 8, 2) := by decide +kernel
theorem dX0_gapOf_47 : decode cX0_gapOf 47 = .ok (.iload 5, 2) := by decide +kernel
theorem dX0_gapOf_49 : decode cX0_gapOf 49 = .ok (.iload 7, 2) := by decide +kernel
theorem dX0_gapOf_51 : decode cX0_gapOf 51 = .ok (.iconst 2, 1) := by decide +kernel
theorem dX0_gapOf_52 : decode cX0_gapOf 52 = .ok (.iload 8, 2) := by decide +kernel
theorem dX0_gapOf_54 : decode cX0_gapOf 54 = .ok (.imul, 1) := by decide +kernel
theorem dX0_gapOf_55 : decode cX0_gapOf 55 = .ok (.isub, 1) := by decide +kernel
theorem dX0_gapOf_56 : decode cX0_gapOf 56 = .ok (.invokestatic 90, 3) := by decide +kernel
theorem dX0_gapOf_59 : decode cX0_gapOf 59 = .ok (.iadd, 1) := by decide +kernel
theorem dX0_gapOf_60 : decode cX0_gapOf 60 = .ok (.istore 5, 2) := by decide +kernel
theorem dX0_gapOf_62 : decode cX0_gapOf 62 = .ok (.iinc 6 1, 3) := by decide +kernel
theorem dX0_gapOf_65 : decode cX0_gapOf 65 = .ok (.goto (-50), 3) := by decide +kernel
theorem dX0_gapOf_68 : decode cX0_gapOf 68 = .ok (.iload 5, 2) := by decide +kernel
theorem dX0_gapOf_70 : decode cX0_gapOf 70 = .ok (.ireturn, 1) := by decide +kernel
theorem dX1_init_0 : decode cX1_init 0 = .ok (.aload_n 0, 1) := by decide +kernel
theorem dX1_init_1 : decode cX1_init 1 = .ok (.invokespecial 3, 3) := by decide +kernel
theorem dX1_init_4 : decode cX1_init 4 = .ok (.aload_n 0, 1) := by decide +kernel
theorem dX1_init_5 : decode cX1_init 5 = .ok (.bipush 14, 2) := by decide +kernel
theorem dX1_init_7 : decode cX1_init 7 = .ok (.anewarray 9, 3) := by decide +kernel
theorem dX1_init_10 : decode cX1_init 10 = .ok (.putfield 11, 3) := by decide +kernel
theorem dX1_init_13 : decode cX1_init 13 = .ok (.iconst 0, 1) := by decide +kernel
theorem dX1_init_14 : decode cX1_init 14 = .ok (.istore_n 1, 1) := by decide +kernel
theorem dX1_init_15 : decode cX1_init 15 = .ok (.iload_n 1, 1) := by decide +kernel
theorem dX1_init_16 : decode cX1_init 16 = .ok (.aload_n 0, 1) := by decide +kernel
theorem dX1_init_17 : decode cX1_init 17 = .ok (.getfield 11, 3) := by decide +kernel
theorem dX1_init_20 : decode cX1_init 20 = .ok (.arraylength, 1) := by decide +kernel
theorem dX1_init_21 : decode cX1_init 21 = .ok (.if_icmp .ge 22, 3) := by decide +kernel
theorem dX1_init_24 : decode cX1_init 24 = .ok (.aload_n 0, 1) := by decide +kernel
theorem dX1_init_25 : decode cX1_init 25 = .ok (.getfield 11, 3) := by decide +kernel
theorem dX1_init_28 : decode cX1_init 28 = .ok (.iload_n 1, 1) := by decide +kernel
theorem dX1_init_29 : decode cX1_init 29 = .ok (.new 9, 3) := by decide +kernel
theorem dX1_init_32 : decode cX1_init 32 = .ok (.dup, 1) := by decide +kernel
theorem dX1_init_33 : decode cX1_init 33 = .ok (.invokespecial 17, 3) := by decide +kernel
theorem dX1_init_36 : decode cX1_init 36 = .ok (.aastore, 1) := by decide +kernel
theorem dX1_init_37 : decode cX1_init 37 = .ok (.iinc 1 1, 3) := by decide +kernel
theorem dX1_init_40 : decode cX1_init 40 = .ok (.goto (-25), 3) := by decide +kernel
theorem dX1_init_43 : decode cX1_init 43 = .ok (.return_, 1) := by decide +kernel
theorem dX1_forgetAll_0 : decode cX1_forgetAll 0 = .ok (.aload_n 0, 1) := by decide +kernel
theorem dX1_forgetAll_1 : decode cX1_forgetAll 1 = .ok (.iconst 0, 1) := by decide +kernel
theorem dX1_forgetAll_2 : decode cX1_forgetAll 2 = .ok (.putfield 18, 3) := by decide +kernel
theorem dX1_forgetAll_5 : decode cX1_forgetAll 5 = .ok (.return_, 1) := by decide +kernel
theorem dX1_remember_0 : decode cX1_remember 0 = .ok (.aload_n 0, 1) := by decide +kernel
theorem dX1_remember_1 : decode cX1_remember 1 = .ok (.getfield 22, 3) := by decide +kernel
theorem dX1_remember_4 : decode cX1_remember 4 = .ok (.ifCond .lt 15, 3) := by decide +kernel
theorem dX1_remember_7 : decode cX1_remember 7 = .ok (.aload_n 0, 1) := by decide +kernel
theorem dX1_remember_8 : decode cX1_remember 8 = .ok (.getfield 22, 3) := by decide +kernel
theorem dX1_remember_11 : decode cX1_remember 11 = .ok (.aload_n 0, 1) := by decide +kernel
theorem dX1_remember_12 : decode cX1_remember 12 = .ok (.getfield 11, 3) := by decide +kernel
theorem dX1_remember_15 : decode cX1_remember 15 = .ok (.arraylength, 1) := by decide +kernel
theorem dX1_remember_16 : decode cX1_remember 16 = .ok (.if_icmp .lt 4, 3) := by decide +kernel
theorem dX1_remember_19 : decode cX1_remember 19 = .ok (.return_, 1) := by decide +kernel
theorem dX1_remember_20 : decode cX1_remember 20 = .ok (.aload_n 0, 1) := by decide +kernel
theorem dX1_remember_21 : decode cX1_remember 21 = .ok (.getfield 11, 3) := by decide +kernel
theorem dX1_remember_24 : decode cX1_remember 24 = .ok (.aload_n 0, 1) := by decide +kernel
theorem dX1_remember_25 : decode cX1_remember 25 = .ok (.getfield 22, 3) := by decide +kernel
theorem dX1_remember_28 : decode cX1_remember 28 = .ok (.aaload, 1) := by decide +kernel
theorem dX1_remember_29 : decode cX1_remember 29 = .ok (.astore_n 2, 1) := by decide +kernel
theorem dX1_remember_30 : decode cX1_remember 30 = .ok (.aload_n 2, 1) := by decide +kernel
theorem dX1_remember_31 : decode cX1_remember 31 = .ok (.ifnonnull 4, 3) := by decide +kernel
theorem dX1_remember_34 : decode cX1_remember 34 = .ok (.return_, 1) := by decide +kernel
theorem dX1_remember_35 : decode cX1_remember 35 = .ok (.aload_n 2, 1) := by decide +kernel
theorem dX1_remember_36 : decode cX1_remember 36 = .ok (.aload_n 1, 1) := by decide +kernel
theorem dX1_remember_37 : decode cX1_remember 37 = .ok (.invokevirtual 25, 3) := by decide +kernel
theorem dX1_remember_40 : decode cX1_remember 40 = .ok (.aload_n 0, 1) := by decide +kernel
theorem dX1_remember_41 : decode cX1_remember 41 = .ok (.aload_n 0, 1) := by decide +kernel
theorem dX1_remember_42 : decode cX1_remember 42 = .ok (.getfield 22, 3) := by decide +kernel
theorem dX1_remember_45 : decode cX1_remember 45 = .ok (.iconst 1, 1) := by decide +kernel
theorem dX1_remember_46 : decode cX1_remember 46 = .ok (.iadd, 1) := by decide +kernel
theorem dX1_remember_47 : decode cX1_remember 47 = .ok (.aload_n 0, 1) := by decide +kernel
theorem dX1_remember_48 : decode cX1_remember 48 = .ok (.getfield 11, 3) := by decide +kernel
theorem dX1_remember_51 : decode cX1_remember 51 = .ok (.arraylength, 1) := by decide +kernel
theorem dX1_remember_52 : decode cX1_remember 52 = .ok (.if_icmp .ge 12, 3) := by decide +kernel
theorem dX1_remember_55 : decode cX1_remember 55 = .ok (.aload_n 0, 1) := by decide +kernel
theorem dX1_remember_56 : decode cX1_remember 56 = .ok (.getfield 22, 3) := by decide +kernel
theorem dX1_remember_59 : decode cX1_remember 59 = .ok (.iconst 1, 1) := by decide +kernel
theorem dX1_remember_60 : decode cX1_remember 60 = .ok (.iadd, 1) := by decide +kernel
theorem dX1_remember_61 : decode cX1_remember 61 = .ok (.goto 4, 3) := by decide +kernel
theorem dX1_remember_64 : decode cX1_remember 64 = .ok (.iconst 0, 1) := by decide +kernel
theorem dX1_remember_65 : decode cX1_remember 65 = .ok (.putfield 22, 3) := by decide +kernel
theorem dX1_remember_68 : decode cX1_remember 68 = .ok (.aload_n 0, 1) := by decide +kernel
theorem dX1_remember_69 : decode cX1_remember 69 = .ok (.aload_n 0, 1) := by decide +kernel
theorem dX1_remember_70 : decode cX1_remember 70 = .ok (.getfield 18, 3) := by decide +kernel
theorem dX1_remember_73 : decode cX1_remember 73 = .ok (.iconst 1, 1) := by decide +kernel
theorem dX1_remember_74 : decode cX1_remember 74 = .ok (.iadd, 1) := by decide +kernel
theorem dX1_remember_75 : decode cX1_remember 75 = .ok (.aload_n 0, 1) := by decide +kernel
theorem dX1_remember_76 : decode cX1_remember 76 = .ok (.getfield 11, 3) := by decide +kernel
theorem dX1_remember_79 : decode cX1_remember 79 = .ok (.arraylength, 1) := by decide +kernel
theorem dX1_remember_80 : decode cX1_remember 80 = .ok (.invokestatic 29, 3) := by decide +kernel
theorem dX1_remember_83 : decode cX1_remember 83 = .ok (.putfield 18, 3) := by decide +kernel
theorem dX1_remember_86 : decode cX1_remember 86 = .ok (.return_, 1) := by decide +kernel
theorem dX1_takeBack_0 : decode cX1_takeBack 0 = .ok (.aload_n 0, 1) := by decide +kernel
theorem dX1_takeBack_1 : decode cX1_takeBack 1 = .ok (.getfield 18, 3) := by decide +kernel
theorem dX1_takeBack_4 : decode cX1_takeBack 4 = .ok (.ifCond .le 7, 3) := by decide +kernel
theorem dX1_takeBack_7 : decode cX1_takeBack 7 = .ok (.aload_n 1, 1) := by decide +kernel
theorem dX1_takeBack_8 : decode cX1_takeBack 8 = .ok (.ifnonnull 4, 3) := by decide +kernel
theorem dX1_takeBack_11 : decode cX1_takeBack 11 = .ok (.return_, 1) := by decide +kernel
theorem dX1_takeBack_12 : decode cX1_takeBack 12 = .ok (.aload_n 0, 1) := by decide +kernel
theorem dX1_takeBack_13 : decode cX1_takeBack 13 = .ok (.getfield 22, 3) := by decide +kernel
theorem dX1_takeBack_16 : decode cX1_takeBack 16 = .ok (.ifCond .le 12, 3) := by decide +kernel
theorem dX1_takeBack_19 : decode cX1_takeBack 19 = .ok (.aload_n 0, 1) := by decide +kernel
theorem dX1_takeBack_20 : decode cX1_takeBack 20 = .ok (.getfield 22, 3) := by decide +kernel
theorem dX1_takeBack_23 : decode cX1_takeBack 23 = .ok (.iconst 1, 1) := by decide +kernel
theorem dX1_takeBack_24 : decode cX1_takeBack 24 = .ok (.isub, 1) := by decide +kernel
theorem dX1_takeBack_25 : decode cX1_takeBack 25 = .ok (.goto 10, 3) := by decide +kernel
theorem dX1_takeBack_28 : decode cX1_takeBack 28 = .ok (.aload_n 0, 1) := by decide +kernel
theorem dX1_takeBack_29 : decode cX1_takeBack 29 = .ok (.getfield 11, 3) := by decide +kernel
theorem dX1_takeBack_32 : decode cX1_takeBack 32 = .ok (.arraylength, 1) := by decide +kernel
theorem dX1_takeBack_33 : decode cX1_takeBack 33 = .ok (.iconst 1, 1) := by decide +kernel
theorem dX1_takeBack_34 : decode cX1_takeBack 34 = .ok (.isub, 1) := by decide +kernel
theorem dX1_takeBack_35 : decode cX1_takeBack 35 = .ok (.istore_n 2, 1) := by decide +kernel
theorem dX1_takeBack_36 : decode cX1_takeBack 36 = .ok (.iload_n 2, 1) := by decide +kernel
theorem dX1_takeBack_37 : decode cX1_takeBack 37 = .ok (.ifCond .lt 12, 3) := by decide +kernel
theorem dX1_takeBack_40 : decode cX1_takeBack 40 = .ok (.iload_n 2, 1) := by decide +kernel
theorem dX1_takeBack_41 : decode cX1_takeBack 41 = .ok (.aload_n 0, 1) := by decide +kernel
theorem dX1_takeBack_42 : decode cX1_takeBack 42 = .ok (.getfield 11, 3) := by decide +kernel
theorem dX1_takeBack_45 : decode cX1_takeBack 45 = .ok (.arraylength, 1) := by decide +kernel
theorem dX1_takeBack_46 : decode cX1_takeBack 46 = .ok (.if_icmp .lt 4, 3) := by decide +kernel
theorem dX1_takeBack_49 : decode cX1_takeBack 49 = .ok (.return_, 1) := by decide +kernel
theorem dX1_takeBack_50 : decode cX1_takeBack 50 = .ok (.aload_n 1, 1) := by decide +kernel
theorem dX1_takeBack_51 : decode cX1_takeBack 51 = .ok (.aload_n 0, 1) := by decide +kernel
theorem dX1_takeBack_52 : decode cX1_takeBack 52 = .ok (.getfield 11, 3) := by decide +kernel
theorem dX1_takeBack_55 : decode cX1_takeBack 55 = .ok (.iload_n 2, 1) := by decide +kernel
theorem dX1_takeBack_56 : decode cX1_takeBack 56 = .ok (.aaload, 1) := by decide +kernel
theorem dX1_takeBack_57 : decode cX1_takeBack 57 = .ok (.invokevirtual 25, 3) := by decide +kernel
theorem dX1_takeBack_60 : decode cX1_takeBack 60 = .ok (.aload_n 0, 1) := by decide +kernel
theorem dX1_takeBack_61 : decode cX1_takeBack 61 = .ok (.iload_n 2, 1) := by decide +kernel
theorem dX1_takeBack_62 : decode cX1_takeBack 62 = .ok (.putfield 22, 3) := by decide +kernel
theorem dX1_takeBack_65 : decode cX1_takeBack 65 = .ok (.aload_n 0, 1) := by decide +kernel
theorem dX1_takeBack_66 : decode cX1_takeBack 66 = .ok (.dup, 1) := by decide +kernel
theorem dX1_takeBack_67 : decode cX1_takeBack 67 = .ok (.getfield 18, 3) := by decide +kernel
theorem dX1_takeBack_70 : decode cX1_takeBack 70 = .ok (.iconst 1, 1) := by decide +kernel
theorem dX1_takeBack_71 : decode cX1_takeBack 71 = .ok (.isub, 1) := by decide +kernel
theorem dX1_takeBack_72 : decode cX1_takeBack 72 = .ok (.putfield 18, 3) := by decide +kernel
theorem dX1_takeBack_75 : decode cX1_takeBack 75 = .ok (.return_, 1) := by decide +kernel
theorem dX2_init_0 : decode cX2_init 0 = .ok (.aload_n 0, 1) := by decide +kernel
theorem dX2_init_1 : decode cX2_init 1 = .ok (.invokespecial 3, 3) := by decide +kernel
theorem dX2_init_4 : decode cX2_init 4 = .ok (.aload_n 0, 1) := by decide +kernel
theorem dX2_init_5 : decode cX2_init 5 = .ok (.bipush 16, 2) := by decide +kernel
theorem dX2_init_7 : decode cX2_init 7 = .ok (.newarray .int, 2) := by decide +kernel
theorem dX2_init_9 : decode cX2_init 9 = .ok (.putfield 9, 3) := by decide +kernel
theorem dX2_init_12 : decode cX2_init 12 = .ok (.aload_n 0, 1) := by decide +kernel
theorem dX2_init_13 : decode cX2_init 13 = .ok (.bipush 16, 2) := by decide +kernel
theorem dX2_init_15 : decode cX2_init 15 = .ok (.newarray .int, 2) := by decide +kernel
theorem dX2_init_17 : decode cX2_init 17 = .ok (.putfield 15, 3) := by decide +kernel
theorem dX2_init_20 : decode cX2_init 20 = .ok (.aload_n 0, 1) := by decide +kernel
theorem dX2_init_21 : decode cX2_init 21 = .ok (.bipush 16, 2) := by decide +kernel
theorem dX2_init_23 : decode cX2_init 23 = .ok (.newarray .int, 2) := by decide +kernel
theorem dX2_init_25 : decode cX2_init 25 = .ok (.putfield 18, 3) := by decide +kernel
theorem dX2_init_28 : decode cX2_init 28 = .ok (.return_, 1) := by decide +kernel
theorem dX2_becomeNew_0 : decode cX2_becomeNew 0 = .ok (.aload_n 0, 1) := by decide +kernel
theorem dX2_becomeNew_1 : decode cX2_becomeNew 1 = .ok (.iconst 0, 1) := by decide +kernel
theorem dX2_becomeNew_2 : decode cX2_becomeNew 2 = .ok (.putfield 21, 3) := by decide +kernel
theorem dX2_becomeNew_5 : decode cX2_becomeNew 5 = .ok (.aload_n 0, 1) := by decide +kernel
theorem dX2_becomeNew_6 : decode cX2_becomeNew 6 = .ok (.iconst 0, 1) := by decide +kernel
theorem dX2_becomeNew_7 : decode cX2_becomeNew 7 = .ok (.putfield 25, 3) := by decide +kernel
theorem dX2_becomeNew_10 : decode cX2_becomeNew 10 = .ok (.aload_n 0, 1) := by decide +kernel
theorem dX2_becomeNew_11 : decode cX2_becomeNew 11 = .ok (.iconst 0, 1) := by decide +kernel
theorem dX2_becomeNew_12 : decode cX2_becomeNew 12 = .ok (.putfield 28, 3) := by decide +kernel
theorem dX2_becomeNew_15 : decode cX2_becomeNew 15 = .ok (.aload_n 0, 1) := by decide +kernel
theorem dX2_becomeNew_16 : decode cX2_becomeNew 16 = .ok (.iconst 0, 1) := by decide +kernel
theorem dX2_becomeNew_17 : decode cX2_becomeNew 17 = .ok (.putfield 31, 3) := by decide +kernel
theorem dX2_becomeNew_20 : decode cX2_becomeNew 20 = .ok (.aload_n 0, 1) := by decide +kernel
theorem dX2_becomeNew_21 : decode cX2_becomeNew 21 = .ok (.iconst 0, 1) := by decide +kernel
theorem dX2_becomeNew_22 : decode cX2_becomeNew 22 = .ok (.putfield 34, 3) := by decide +kernel
theorem dX2_becomeNew_25 : decode cX2_becomeNew 25 = .ok (.aload_n 0, 1) := by decide +kernel
theorem dX2_becomeNew_26 : decode cX2_becomeNew 26 = .ok (.invokevirtual 37, 3) := by decide +kernel
theorem dX2_becomeNew_29 : decode cX2_becomeNew 29 = .ok (.return_, 1) := by decide +kernel
theorem dX2_becomeLike_0 : decode cX2_becomeLike 0 = .ok (.aload_n 1, 1) := by decide +kernel
theorem dX2_becomeLike_1 : decode cX2_becomeLike 1 = .ok (.ifnonnull 4, 3) := by decide +kernel
theorem dX2_becomeLike_4 : decode cX2_becomeLike 4 = .ok (.return_, 1) := by decide +kernel
theorem dX2_becomeLike_5 : decode cX2_becomeLike 5 = .ok (.aload_n 0, 1) := by decide +kernel
theorem dX2_becomeLike_6 : decode cX2_becomeLike 6 = .ok (.aload_n 1, 1) := by decide +kernel
theorem dX2_becomeLike_7 : decode cX2_becomeLike 7 = .ok (.getfield 21, 3) := by decide +kernel
theorem dX2_becomeLike_10 : decode cX2_becomeLike 10 = .ok (.putfield 21, 3) := by decide +kernel
theorem dX2_becomeLike_13 : decode cX2_becomeLike 13 = .ok (.aload_n 0, 1) := by decide +kernel
theorem dX2_becomeLike_14 : decode cX2_becomeLike 14 = .ok (.aload_n 1, 1) := by decide +kernel
theorem dX2_becomeLike_15 : decode cX2_becomeLike 15 = .ok (.getfield 25, 3) := by decide +kernel
theorem dX2_becomeLike_18 : decode cX2_becomeLike 18 = .ok (.putfield 25, 3) := by decide +kernel
theorem dX2_becomeLike_21 : decode cX2_becomeLike 21 = .ok (.aload_n 0, 1) := by decide +kernel
theorem dX2_becomeLike_22 : decode cX2_becomeLike 22 = .ok (.aload_n 1, 1) := by decide +kernel
theorem dX2_becomeLike_23 : decode cX2_becomeLike 23 = .ok (.getfield 28, 3) := by decide +kernel
theorem dX2_becomeLike_26 : decode cX2_becomeLike 26 = .ok (.putfield 28, 3) := by decide +kernel
theorem dX2_becomeLike_29 : decode cX2_becomeLike 29 = .ok (.aload_n 0, 1) := by decide +kernel
theorem dX2_becomeLike_30 : decode cX2_becomeLike 30 = .ok (.aload_n 1, 1) := by decide +kernel
theorem dX2_becomeLike_31 : decode cX2_becomeLike 31 = .ok (.getfield 31, 3) := by decide +kernel
theorem dX2_becomeLike_34 : decode cX2_becomeLike 34 = .ok (.putfield 31, 3) := by decide +kernel
theorem dX2_becomeLike_37 : decode cX2_becomeLike 37 = .ok (.aload_n 0, 1) := by decide +kernel
theorem dX2_becomeLike_38 : decode cX2_becomeLike 38 = .ok (.aload_n 1, 1) := by decide +kernel
theorem dX2_becomeLike_39 : decode cX2_becomeLike 39 = .ok (.getfield 34, 3) := by decide +kernel
theorem dX2_becomeLike_42 : decode cX2_becomeLike 42 = .ok (.putfield 34, 3) := by decide +kernel
theorem dX2_becomeLike_45 : decode cX2_becomeLike 45 = .ok (.aload_n 0, 1) := by decide +kernel
theorem dX2_becomeLike_46 : decode cX2_becomeLike 46 = .ok (.aload_n 1, 1) := by decide +kernel
theorem dX2_becomeLike_47 : decode cX2_becomeLike 47 = .ok (.getfield 40, 3) := by decide +kernel
theorem dX2_becomeLike_50 : decode cX2_becomeLike 50 = .ok (.putfield 40, 3) := by decide +kernel
theorem dX2_becomeLike_53 : decode cX2_becomeLike 53 = .ok (.iconst 0, 1) := by decide +kernel
theorem dX2_becomeLike_54 : decode cX2_becomeLike 54 = .ok (.istore_n 2, 1) := by decide +kernel
theorem dX2_becomeLike_55 : decode cX2_becomeLike 55 = .ok (.iload_n 2, 1) := by decide +kernel
theorem dX2_becomeLike_56 : decode cX2_becomeLike 56 = .ok (.bipush 16, 2) := by decide +kernel
theorem dX2_becomeLike_58 : decode cX2_becomeLike 58 = .ok (.if_icmp .ge 34, 3) := by decide +kernel
theorem dX2_becomeLike_61 : decode cX2_becomeLike 61 = .ok (.aload_n 0, 1) := by decide +kernel
theorem dX2_becomeLike_62 : decode cX2_becomeLike 62 = .ok (.iload_n 2, 1) := by decide +kernel
theorem dX2_becomeLike_63 : decode cX2_becomeLike 63 = .ok (.aload_n 1, 1) := by decide +kernel
theorem dX2_becomeLike_64 : decode cX2_becomeLike 64 = .ok (.iload_n 2, 1) := by decide +kernel
theorem dX2_becomeLike_65 : decode cX2_becomeLike 65 = .ok (.invokevirtual 43, 3) := by decide +kernel
theorem dX2_becomeLike_68 : decode cX2_becomeLike 68 = .ok (.aload_n 1, 1) := by decide +kernel
theorem dX2_becomeLike_69 : decode cX2_becomeLike 69 = .ok (.iload_n 2, 1) := by decide +kernel
theorem dX2_becomeLike_70 : decode cX2_becomeLike 70 = .ok (.invokevirtual 47, 3) := by decide +kernel
theorem dX2_becomeLike_73 : decode cX2_becomeLike 73 = .ok (.invokevirtual 50, 3) := by decide +kernel
theorem dX2_becomeLike_76 : decode cX2_becomeLike 76 = .ok (.aload_n 0, 1) := by decide +kernel
theorem dX2_becomeLike_77 : decode cX2_becomeLike 77 = .ok (.iload_n 2, 1) := by decide +kernel
theorem dX2_becomeLike_78 : decode cX2_becomeLike 78 = .ok (.aload_n 1, 1) := by decide +kernel
theorem dX2_becomeLike_79 : decode cX2_becomeLike 79 = .ok (.iload_n 2, 1) := by decide +kernel
theorem dX2_becomeLike_80 : decode cX2_becomeLike 80 = .ok (.invokevirtual 54, 3) := by decide +kernel
theorem dX2_becomeLike_83 : decode cX2_becomeLike 83 = .ok (.invokevirtual 57, 3) := by decide +kernel
theorem dX2_becomeLike_86 : decode cX2_becomeLike 86 = .ok (.iinc 2 1, 3) := by decide +kernel
theorem dX2_becomeLike_89 : decode cX2_becomeLike 89 = .ok (.goto (-34), 3) := by decide +kernel
theorem dX2_becomeLike_92 : decode cX2_becomeLike 92 = .ok (.return_, 1) := by decide +kernel
theorem dX2_kindOf_0 : decode cX2_kindOf 0 = .ok (.iload_n 1, 1) := by decide +kernel
theorem dX2_kindOf_1 : decode cX2_kindOf 1 = .ok (.ifCond .lt 21, 3) := by decide +kernel
theorem dX2_kindOf_4 : decode cX2_kindOf 4 = .ok (.iload_n 1, 1) := by decide +kernel
theorem dX2_kindOf_5 : decode cX2_kindOf 5 = .ok (.aload_n 0, 1) := by decide +kernel
theorem dX2_kindOf_6 : decode cX2_kindOf 6 = .ok (.getfield 9, 3) := by decide +kernel
theorem dX2_kindOf_9 : decode cX2_kindOf 9 = .ok (.arraylength, 1) := by decide +kernel
theorem dX2_kindOf_10 : decode cX2_kindOf 10 = .ok (.if_icmp .ge 12, 3) := by decide +kernel
theorem dX2_kindOf_13 : decode cX2_kindOf 13 = .ok (.aload_n 0, 1) := by decide +kernel
theorem dX2_kindOf_14 : decode cX2_kindOf 14 = .ok (.getfield 9, 3) := by decide +kernel
theorem dX2_kindOf_17 : decode cX2_kindOf 17 = .ok (.iload_n 1, 1) := by decide +kernel
theorem dX2_kindOf_18 : decode cX2_kindOf 18 = .ok (.iaload, 1) := by decide +kernel
theorem dX2_kindOf_19 : decode cX2_kindOf 19 = .ok (.goto 4, 3) := by decide +kernel
theorem dX2_kindOf_22 : decode cX2_kindOf 22 = .ok (.iconst 0, 1) := by decide +kernel
theorem dX2_kindOf_23 : decode cX2_kindOf 23 = .ok (.ireturn, 1) := by decide +kernel
theorem dX2_weightOf_0 : decode cX2_weightOf 0 = .ok (.iload_n 1, 1) := by decide +kernel
theorem dX2_weightOf_1 : decode cX2_weightOf 1 = .ok (.ifCond .lt 21, 3) := by decide +kernel
theorem dX2_weightOf_4 : decode cX2_weightOf 4 = .ok (.iload_n 1, 1) := by decide +kernel
theorem dX2_weightOf_5 : decode cX2_weightOf 5 = .ok (.aload_n 0, 1) := by decide +kernel
theorem dX2_weightOf_6 : decode cX2_weightOf 6 = .ok (.getfield 15, 3) := by decide +kernel
theorem dX2_weightOf_9 : decode cX2_weightOf 9 = .ok (.arraylength, 1) := by decide +kernel
theorem dX2_weightOf_10 : decode cX2_weightOf 10 = .ok (.if_icmp .ge 12, 3) := by decide +kernel
theorem dX2_weightOf_13 : decode cX2_weightOf 13 = .ok (.aload_n 0, 1) := by decide +kernel
theorem dX2_weightOf_14 : decode cX2_weightOf 14 = .ok (.getfield 15, 3) := by decide +kernel
theorem dX2_weightOf_17 : decode cX2_weightOf 17 = .ok (.iload_n 1, 1) := by decide +kernel
theorem dX2_weightOf_18 : decode cX2_weightOf 18 = .ok (.iaload, 1) := by decide +kernel
theorem dX2_weightOf_19 : decode cX2_weightOf 19 = .ok (.goto 4, 3) := by decide +kernel
theorem dX2_weightOf_22 : decode cX2_weightOf 22 = .ok (.iconst 0, 1) := by decide +kernel
theorem dX2_weightOf_23 : decode cX2_weightOf 23 = .ok (.ireturn, 1) := by decide +kernel
theorem dX2_ownerAt_0 : decode cX2_ownerAt 0 = .ok (.iload_n 1, 1) := by decide +kernel
theorem dX2_ownerAt_1 : decode cX2_ownerAt 1 = .ok (.ifCond .lt 21, 3) := by decide +kernel
theorem dX2_ownerAt_4 : decode cX2_ownerAt 4 = .ok (.iload_n 1, 1) := by decide +kernel
theorem dX2_ownerAt_5 : decode cX2_ownerAt 5 = .ok (.aload_n 0, 1) := by decide +kernel
theorem dX2_ownerAt_6 : decode cX2_ownerAt 6 = .ok (.getfield 18, 3) := by decide +kernel
theorem dX2_ownerAt_9 : decode cX2_ownerAt 9 = .ok (.arraylength, 1) := by decide +kernel
theorem dX2_ownerAt_10 : decode cX2_ownerAt 10 = .ok (.if_icmp .ge 12, 3) := by decide +kernel
theorem dX2_ownerAt_13 : decode cX2_ownerAt 13 = .ok (.aload_n 0, 1) := by decide +kernel
theorem dX2_ownerAt_14 : decode cX2_ownerAt 14 = .ok (.getfield 18, 3) := by decide +kernel
theorem dX2_ownerAt_17 : decode cX2_ownerAt 17 = .ok (.iload_n 1, 1) := by decide +kernel
theorem dX2_ownerAt_18 : decode cX2_ownerAt 18 = .ok (.iaload, 1) := by decide +kernel
theorem dX2_ownerAt_19 : decode cX2_ownerAt 19 = .ok (.goto 4, 3) := by decide +kernel
theorem dX2_ownerAt_22 : decode cX2_ownerAt 22 = .ok (.iconst (-1), 1) := by decide +kernel
theorem dX2_ownerAt_23 : decode cX2_ownerAt 23 = .ok (.ireturn, 1) := by decide +kernel
theorem dX2_putJewel_0 : decode cX2_putJewel 0 = .ok (.iload_n 1, 1) := by decide +kernel
theorem dX2_putJewel_1 : decode cX2_putJewel 1 = .ok (.ifCond .lt 35, 3) := by decide +kernel
theorem dX2_putJewel_4 : decode cX2_putJewel 4 = .ok (.iload_n 1, 1) := by decide +kernel
theorem dX2_putJewel_5 : decode cX2_putJewel 5 = .ok (.aload_n 0, 1) := by decide +kernel
theorem dX2_putJewel_6 : decode cX2_putJewel 6 = .ok (.getfield 9, 3) := by decide +kernel
theorem dX2_putJewel_9 : decode cX2_putJewel 9 = .ok (.arraylength, 1) := by decide +kernel
theorem dX2_putJewel_10 : decode cX2_putJewel 10 = .ok (.if_icmp .ge 26, 3) := by decide +kernel
theorem dX2_putJewel_13 : decode cX2_putJewel 13 = .ok (.iload_n 1, 1) := by decide +kernel
theorem dX2_putJewel_14 : decode cX2_putJewel 14 = .ok (.aload_n 0, 1) := by decide +kernel
theorem dX2_putJewel_15 : decode cX2_putJewel 15 = .ok (.getfield 15, 3) := by decide +kernel
theorem dX2_putJewel_18 : decode cX2_putJewel 18 = .ok (.arraylength, 1) := by decide +kernel
theorem dX2_putJewel_19 : decode cX2_putJewel 19 = .ok (.if_icmp .ge 17, 3) := by decide +kernel
theorem dX2_putJewel_22 : decode cX2_putJewel 22 = .ok (.aload_n 0, 1) := by decide +kernel
theorem dX2_putJewel_23 : decode cX2_putJewel 23 = .ok (.getfield 9, 3) := by decide +kernel
theorem dX2_putJewel_26 : decode cX2_putJewel 26 = .ok (.iload_n 1, 1) := by decide +kernel
theorem dX2_putJewel_27 : decode cX2_putJewel 27 = .ok (.iload_n 2, 1) := by decide +kernel
theorem dX2_putJewel_28 : decode cX2_putJewel 28 = .ok (.iastore, 1) := by decide +kernel
theorem dX2_putJewel_29 : decode cX2_putJewel 29 = .ok (.aload_n 0, 1) := by decide +kernel
theorem dX2_putJewel_30 : decode cX2_putJewel 30 = .ok (.getfield 15, 3) := by decide +kernel
theorem dX2_putJewel_33 : decode cX2_putJewel 33 = .ok (.iload_n 1, 1) := by decide +kernel
theorem dX2_putJewel_34 : decode cX2_putJewel 34 = .ok (.iload_n 3, 1) := by decide +kernel
theorem dX2_putJewel_35 : decode cX2_putJewel 35 = .ok (.iastore, 1) := by decide +kernel
theorem dX2_putJewel_36 : decode cX2_putJewel 36 = .ok (.return_, 1) := by decide +kernel
theorem dX2_putOwner_0 : decode cX2_putOwner 0 = .ok (.iload_n 1, 1) := by decide +kernel
theorem dX2_putOwner_1 : decode cX2_putOwner 1 = .ok (.ifCond .lt 19, 3) := by decide +kernel
theorem dX2_putOwner_4 : decode cX2_putOwner 4 = .ok (.iload_n 1, 1) := by decide +kernel
theorem dX2_putOwner_5 : decode cX2_putOwner 5 = .ok (.aload_n 0, 1) := by decide +kernel
theorem dX2_putOwner_6 : decode cX2_putOwner 6 = .ok (.getfield 18, 3) := by decide +kernel
theorem dX2_putOwner_9 : decode cX2_putOwner 9 = .ok (.arraylength, 1) := by decide +kernel
theorem dX2_putOwner_10 : decode cX2_putOwner 10 = .ok (.if_icmp .ge 10, 3) := by decide +kernel
theorem dX2_putOwner_13 : decode cX2_putOwner 13 = .ok (.aload_n 0, 1) := by decide +kernel
theorem dX2_putOwner_14 : decode cX2_putOwner 14 = .ok (.getfield 18, 3) := by decide +kernel
theorem dX2_putOwner_17 : decode cX2_putOwner 17 = .ok (.iload_n 1, 1) := by decide +kernel
theorem dX2_putOwner_18 : decode cX2_putOwner 18 = .ok (.iload_n 2, 1) := by decide +kernel
theorem dX2_putOwner_19 : decode cX2_putOwner 19 = .ok (.iastore, 1) := by decide +kernel
theorem dX2_putOwner_20 : decode cX2_putOwner 20 = .ok (.return_, 1) := by decide +kernel
theorem dX2_hasJewel_0 : decode cX2_hasJewel 0 = .ok (.iload_n 1, 1) := by decide +kernel
theorem dX2_hasJewel_1 : decode cX2_hasJewel 1 = .ok (.ifCond .lt 15, 3) := by decide +kernel
theorem dX2_hasJewel_4 : decode cX2_hasJewel 4 = .ok (.iload_n 1, 1) := by decide +kernel
theorem dX2_hasJewel_5 : decode cX2_hasJewel 5 = .ok (.aload_n 0, 1) := by decide +kernel
theorem dX2_hasJewel_6 : decode cX2_hasJewel 6 = .ok (.getfield 21, 3) := by decide +kernel
theorem dX2_hasJewel_9 : decode cX2_hasJewel 9 = .ok (.if_icmp .ge 7, 3) := by decide +kernel
theorem dX2_hasJewel_12 : decode cX2_hasJewel 12 = .ok (.iconst 1, 1) := by decide +kernel
theorem dX2_hasJewel_13 : decode cX2_hasJewel 13 = .ok (.goto 4, 3) := by decide +kernel
theorem dX2_hasJewel_16 : decode cX2_hasJewel 16 = .ok (.iconst 0, 1) := by decide +kernel
theorem dX2_hasJewel_17 : decode cX2_hasJewel 17 = .ok (.ireturn, 1) := by decide +kernel
theorem dX2_hasPlace_0 : decode cX2_hasPlace 0 = .ok (.iload_n 1, 1) := by decide +kernel
theorem dX2_hasPlace_1 : decode cX2_hasPlace 1 = .ok (.ifCond .lt 15, 3) := by decide +kernel
theorem dX2_hasPlace_4 : decode cX2_hasPlace 4 = .ok (.iload_n 1, 1) := by decide +kernel
theorem dX2_hasPlace_5 : decode cX2_hasPlace 5 = .ok (.aload_n 0, 1) := by decide +kernel
theorem dX2_hasPlace_6 : decode cX2_hasPlace 6 = .ok (.getfield 21, 3) := by decide +kernel
theorem dX2_hasPlace_9 : decode cX2_hasPlace 9 = .ok (.if_icmp .ge 7, 3) := by decide +kernel
theorem dX2_hasPlace_12 : decode cX2_hasPlace 12 = .ok (.iconst 1, 1) := by decide +kernel
theorem dX2_hasPlace_13 : decode cX2_hasPlace 13 = .ok (.goto 4, 3) := by decide +kernel
theorem dX2_hasPlace_16 : decode cX2_hasPlace 16 = .ok (.iconst 0, 1) := by decide +kernel
theorem dX2_hasPlace_17 : decode cX2_hasPlace 17 = .ok (.ireturn, 1) := by decide +kernel
theorem dX2_canBeCutAt_0 : decode cX2_canBeCutAt 0 = .ok (.iload_n 1, 1) := by decide +kernel
theorem dX2_canBeCutAt_1 : decode cX2_canBeCutAt 1 = .ok (.iconst 1, 1) := by decide +kernel
theorem dX2_canBeCutAt_2 : decode cX2_canBeCutAt 2 = .ok (.if_icmp .lt 15, 3) := by decide +kernel
theorem dX2_canBeCutAt_5 : decode cX2_canBeCutAt 5 = .ok (.iload_n 1, 1) := by decide +kernel
theorem dX2_canBeCutAt_6 : decode cX2_canBeCutAt 6 = .ok (.aload_n 0, 1) := by decide +kernel
theorem dX2_canBeCutAt_7 : decode cX2_canBeCutAt 7 = .ok (.getfield 21, 3) := by decide +kernel
theorem dX2_canBeCutAt_10 : decode cX2_canBeCutAt 10 = .ok (.if_icmp .ge 7, 3) := by decide +kernel
theorem dX2_canBeCutAt_13 : decode cX2_canBeCutAt 13 = .ok (.iconst 1, 1) := by decide +kernel
theorem dX2_canBeCutAt_14 : decode cX2_canBeCutAt 14 = .ok (.goto 4, 3) := by decide +kernel
theorem dX2_canBeCutAt_17 : decode cX2_canBeCutAt 17 = .ok (.iconst 0, 1) := by decide +kernel
theorem dX2_canBeCutAt_18 : decode cX2_canBeCutAt 18 = .ok (.ireturn, 1) := by decide +kernel
theorem dX2_hasRun_0 : decode cX2_hasRun 0 = .ok (.iload_n 1, 1) := by decide +kernel
theorem dX2_hasRun_1 : decode cX2_hasRun 1 = .ok (.ifCond .lt 15, 3) := by decide +kernel
theorem dX2_hasRun_4 : decode cX2_hasRun 4 = .ok (.iload_n 1, 1) := by decide +kernel
theorem dX2_hasRun_5 : decode cX2_hasRun 5 = .ok (.aload_n 0, 1) := by decide +kernel
theorem dX2_hasRun_6 : decode cX2_hasRun 6 = .ok (.invokevirtual 61, 3) := by decide +kernel
theorem dX2_hasRun_9 : decode cX2_hasRun 9 = .ok (.if_icmp .ge 7, 3) := by decide +kernel
theorem dX2_hasRun_12 : decode cX2_hasRun 12 = .ok (.iconst 1, 1) := by decide +kernel
theorem dX2_hasRun_13 : decode cX2_hasRun 13 = .ok (.goto 4, 3) := by decide +kernel
theorem dX2_hasRun_16 : decode cX2_hasRun 16 = .ok (.iconst 0, 1) := by decide +kernel
theorem dX2_hasRun_17 : decode cX2_hasRun 17 = .ok (.ireturn, 1) := by decide +kernel
theorem dX2_valueOf_0 : decode cX2_valueOf 0 = .ok (.aload_n 0, 1) := by decide +kernel
theorem dX2_valueOf_1 : decode cX2_valueOf 1 = .ok (.getfield 34, 3) := by decide +kernel
theorem dX2_valueOf_4 : decode cX2_valueOf 4 = .ok (.ifCond .ne 7, 3) := by decide +kernel
theorem dX2_valueOf_7 : decode cX2_valueOf 7 = .ok (.iconst 1, 1) := by decide +kernel
theorem dX2_valueOf_8 : decode cX2_valueOf 8 = .ok (.goto 8, 3) := by decide +kernel
theorem dX2_valueOf_11 : decode cX2_valueOf 11 = .ok (.aload_n 0, 1) := by decide +kernel
theorem dX2_valueOf_12 : decode cX2_valueOf 12 = .ok (.iload_n 1, 1) := by decide +kernel
theorem dX2_valueOf_13 : decode cX2_valueOf 13 = .ok (.invokevirtual 47, 3) := by decide +kernel
theorem dX2_valueOf_16 : decode cX2_valueOf 16 = .ok (.ireturn, 1) := by decide +kernel
theorem dX2_jewelAt_0 : decode cX2_jewelAt 0 = .ok (.aload_n 0, 1) := by decide +kernel
theorem dX2_jewelAt_1 : decode cX2_jewelAt 1 = .ok (.getfield 25, 3) := by decide +kernel
theorem dX2_jewelAt_4 : decode cX2_jewelAt 4 = .ok (.iload_n 1, 1) := by decide +kernel
theorem dX2_jewelAt_5 : decode cX2_jewelAt 5 = .ok (.iadd, 1) := by decide +kernel
theorem dX2_jewelAt_6 : decode cX2_jewelAt 6 = .ok (.istore_n 2, 1) := by decide +kernel
theorem dX2_jewelAt_7 : decode cX2_jewelAt 7 = .ok (.iload_n 2, 1) := by decide +kernel
theorem dX2_jewelAt_8 : decode cX2_jewelAt 8 = .ok (.aload_n 0, 1) := by decide +kernel
theorem dX2_jewelAt_9 : decode cX2_jewelAt 9 = .ok (.getfield 21, 3) := by decide +kernel
theorem dX2_jewelAt_12 : decode cX2_jewelAt 12 = .ok (.if_icmp .ge 7, 3) := by decide +kernel
theorem dX2_jewelAt_15 : decode cX2_jewelAt 15 = .ok (.iload_n 2, 1) := by decide +kernel
theorem dX2_jewelAt_16 : decode cX2_jewelAt 16 = .ok (.goto 9, 3) := by decide +kernel
theorem dX2_jewelAt_19 : decode cX2_jewelAt 19 = .ok (.iload_n 2, 1) := by decide +kernel
theorem dX2_jewelAt_20 : decode cX2_jewelAt 20 = .ok (.aload_n 0, 1) := by decide +kernel
theorem dX2_jewelAt_21 : decode cX2_jewelAt 21 = .ok (.getfield 21, 3) := by decide +kernel
theorem dX2_jewelAt_24 : decode cX2_jewelAt 24 = .ok (.isub, 1) := by decide +kernel
theorem dX2_jewelAt_25 : decode cX2_jewelAt 25 = .ok (.ireturn, 1) := by decide +kernel
theorem dX2_placeWith_0 : decode cX2_placeWith 0 = .ok (.iload_n 1, 1) := by decide +kernel
theorem dX2_placeWith_1 : decode cX2_placeWith 1 = .ok (.aload_n 0, 1) := by decide +kernel
theorem dX2_placeWith_2 : decode cX2_placeWith 2 = .ok (.getfield 25, 3) := by decide +kernel
theorem dX2_placeWith_5 : decode cX2_placeWith 5 = .ok (.isub, 1) := by decide +kernel
theorem dX2_placeWith_6 : decode cX2_placeWith 6 = .ok (.istore_n 2, 1) := by decide +kernel
theorem dX2_placeWith_7 : decode cX2_placeWith 7 = .ok (.iload_n 2, 1) := by decide +kernel
theorem dX2_placeWith_8 : decode cX2_placeWith 8 = .ok (.ifCond .lt 7, 3) := by decide +kernel
theorem dX2_placeWith_11 : decode cX2_placeWith 11 = .ok (.iload_n 2, 1) := by decide +kernel
theorem dX2_placeWith_12 : decode cX2_placeWith 12 = .ok (.goto 9, 3) := by decide +kernel
theorem dX2_placeWith_15 : decode cX2_placeWith 15 = .ok (.iload_n 2, 1) := by decide +kernel
theorem dX2_placeWith_16 : decode cX2_placeWith 16 = .ok (.aload_n 0, 1) := by decide +kernel
theorem dX2_placeWith_17 : decode cX2_placeWith 17 = .ok (.getfield 21, 3) := by decide +kernel
theorem dX2_placeWith_20 : decode cX2_placeWith 20 = .ok (.iadd, 1) := by decide +kernel
theorem dX2_placeWith_21 : decode cX2_placeWith 21 = .ok (.ireturn, 1) := by decide +kernel
theorem dX2_isCut_0 : decode cX2_isCut 0 = .ok (.aload_n 0, 1) := by decide +kernel
theorem dX2_isCut_1 : decode cX2_isCut 1 = .ok (.getfield 40, 3) := by decide +kernel
theorem dX2_isCut_4 : decode cX2_isCut 4 = .ok (.iload_n 1, 1) := by decide +kernel
theorem dX2_isCut_5 : decode cX2_isCut 5 = .ok (.iushr, 1) := by decide +kernel
theorem dX2_isCut_6 : decode cX2_isCut 6 = .ok (.iconst 1, 1) := by decide +kernel
theorem dX2_isCut_7 : decode cX2_isCut 7 = .ok (.iand, 1) := by decide +kernel
theorem dX2_isCut_8 : decode cX2_isCut 8 = .ok (.ifCond .eq 7, 3) := by decide +kernel
theorem dX2_isCut_11 : decode cX2_isCut 11 = .ok (.iconst 1, 1) := by decide +kernel
theorem dX2_isCut_12 : decode cX2_isCut 12 = .ok (.goto 4, 3) := by decide +kernel
theorem dX2_isCut_15 : decode cX2_isCut 15 = .ok (.iconst 0, 1) := by decide +kernel
theorem dX2_isCut_16 : decode cX2_isCut 16 = .ok (.ireturn, 1) := by decide +kernel
theorem dX2_cutCount_0 : decode cX2_cutCount 0 = .ok (.aload_n 0, 1) := by decide +kernel
theorem dX2_cutCount_1 : decode cX2_cutCount 1 = .ok (.getfield 40, 3) := by decide +kernel
theorem dX2_cutCount_4 : decode cX2_cutCount 4 = .ok (.invokestatic 65, 3) := by decide +kernel
theorem dX2_cutCount_7 : decode cX2_cutCount 7 = .ok (.ireturn, 1) := by decide +kernel
theorem dX2_runs_0 : decode cX2_runs 0 = .ok (.aload_n 0, 1) := by decide +kernel
theorem dX2_runs_1 : decode cX2_runs 1 = .ok (.getfield 21, 3) := by decide +kernel
theorem dX2_runs_4 : decode cX2_runs 4 = .ok (.ifCond .ne 7, 3) := by decide +kernel
theorem dX2_runs_7 : decode cX2_runs 7 = .ok (.iconst 0, 1) := by decide +kernel
theorem dX2_runs_8 : decode cX2_runs 8 = .ok (.goto 9, 3) := by decide +kernel
theorem dX2_runs_11 : decode cX2_runs 11 = .ok (.aload_n 0, 1) := by decide +kernel
theorem dX2_runs_12 : decode cX2_runs 12 = .ok (.invokevirtual 70, 3) := by decide +kernel
theorem dX2_runs_15 : decode cX2_runs 15 = .ok (.iconst 1, 1) := by decide +kernel
theorem dX2_runs_16 : decode cX2_runs 16 = .ok (.iadd, 1) := by decide +kernel
theorem dX2_runs_17 : decode cX2_runs 17 = .ok (.ireturn, 1) := by decide +kernel
theorem dX2_runAt_0 : decode cX2_runAt 0 = .ok (.aload_n 0, 1) := by decide +kernel
theorem dX2_runAt_1 : decode cX2_runAt 1 = .ok (.getfield 40, 3) := by decide +kernel
theorem dX2_runAt_4 : decode cX2_runAt 4 = .ok (.iconst 2, 1) := by decide +kernel
theorem dX2_runAt_5 : decode cX2_runAt 5 = .ok (.iload_n 1, 1) := by decide +kernel
theorem dX2_runAt_6 : decode cX2_runAt 6 = .ok (.ishl, 1) := by decide +kernel
theorem dX2_runAt_7 : decode cX2_runAt 7 = .ok (.iconst 1, 1) := by decide +kernel
theorem dX2_runAt_8 : decode cX2_runAt 8 = .ok (.isub, 1) := by decide +kernel
theorem dX2_runAt_9 : decode cX2_runAt 9 = .ok (.iand, 1) := by decide +kernel
theorem dX2_runAt_10 : decode cX2_runAt 10 = .ok (.invokestatic 65, 3) := by decide +kernel
theorem dX2_runAt_13 : decode cX2_runAt 13 = .ok (.ireturn, 1) := by decide +kernel
theorem dX2_firstPlaceOf_0 : decode cX2_firstPlaceOf 0 = .ok (.iconst 0, 1) := by decide +kernel
theorem dX2_firstPlaceOf_1 : decode cX2_firstPlaceOf 1 = .ok (.istore_n 2, 1) := by decide +kernel
theorem dX2_firstPlaceOf_2 : decode cX2_firstPlaceOf 2 = .ok (.iload_n 2, 1) := by decide +kernel
theorem dX2_firstPlaceOf_3 : decode cX2_firstPlaceOf 3 = .ok (.aload_n 0, 1) := by decide +kernel
theorem dX2_firstPlaceOf_4 : decode cX2_firstPlaceOf 4 = .ok (.getfield 21, 3) := by decide +kernel
theorem dX2_firstPlaceOf_7 : decode cX2_firstPlaceOf 7 = .ok (.if_icmp .ge 20, 3) := by decide +kernel
theorem dX2_firstPlaceOf_10 : decode cX2_firstPlaceOf 10 = .ok (.aload_n 0, 1) := by decide +kernel
theorem dX2_firstPlaceOf_11 : decode cX2_firstPlaceOf 11 = .ok (.iload_n 2, 1) := by decide +kernel
theorem dX2_firstPlaceOf_12 : decode cX2_firstPlaceOf 12 = .ok (.invokevirtual 73, 3) := by decide +kernel
theorem dX2_firstPlaceOf_15 : decode cX2_firstPlaceOf 15 = .ok (.iload_n 1, 1) := by decide +kernel
theorem dX2_firstPlaceOf_16 : decode cX2_firstPlaceOf 16 = .ok (.if_icmp .ne 5, 3) := by decide +kernel
theorem dX2_firstPlaceOf_19 : decode cX2_firstPlaceOf 19 = .ok (.iload_n 2, 1) := by decide +kernel
theorem dX2_firstPlaceOf_20 : decode cX2_firstPlaceOf 20 = .ok (.ireturn, 1) := by decide +kernel
theorem dX2_firstPlaceOf_21 : decode cX2_firstPlaceOf 21 = .ok (.iinc 2 1, 3) := by decide +kernel
theorem dX2_firstPlaceOf_24 : decode cX2_firstPlaceOf 24 = .ok (.goto (-22), 3) := by decide +kernel
theorem dX2_firstPlaceOf_27 : decode cX2_firstPlaceOf 27 = .ok (.iconst (-1), 1) := by decide +kernel
theorem dX2_firstPlaceOf_28 : decode cX2_firstPlaceOf 28 = .ok (.ireturn, 1) := by decide +kernel
theorem dX2_placesOf_0 : decode cX2_placesOf 0 = .ok (.iconst 0, 1) := by decide +kernel
theorem dX2_placesOf_1 : decode cX2_placesOf 1 = .ok (.istore_n 2, 1) := by decide +kernel
theorem dX2_placesOf_2 : decode cX2_placesOf 2 = .ok (.iconst 0, 1) := by decide +kernel
theorem dX2_placesOf_3 : decode cX2_placesOf 3 = .ok (.istore_n 3, 1) := by decide +kernel
theorem dX2_placesOf_4 : decode cX2_placesOf 4 = .ok (.iload_n 3, 1) := by decide +kernel
theorem dX2_placesOf_5 : decode cX2_placesOf 5 = .ok (.aload_n 0, 1) := by decide +kernel
theorem dX2_placesOf_6 : decode cX2_placesOf 6 = .ok (.getfield 21, 3) := by decide +kernel
theorem dX2_placesOf_9 : decode cX2_placesOf 9 = .ok (.if_icmp .ge 21, 3) := by decide +kernel
theorem dX2_placesOf_12 : decode cX2_placesOf 12 = .ok (.aload_n 0, 1) := by decide +kernel
theorem dX2_placesOf_13 : decode cX2_placesOf 13 = .ok (.iload_n 3, 1) := by decide +kernel
theorem dX2_placesOf_14 : decode cX2_placesOf 14 = .ok (.invokevirtual 73, 3) := by decide +kernel
theorem dX2_placesOf_17 : decode cX2_placesOf 17 = .ok (.iload_n 1, 1) := by decide +kernel
theorem dX2_placesOf_18 : decode cX2_placesOf 18 = .ok (.if_icmp .ne 6, 3) := by decide +kernel
theorem dX2_placesOf_21 : decode cX2_placesOf 21 = .ok (.iinc 2 1, 3) := by decide +kernel
theorem dX2_placesOf_24 : decode cX2_placesOf 24 = .ok (.iinc 3 1, 3) := by decide +kernel
theorem dX2_placesOf_27 : decode cX2_placesOf 27 = .ok (.goto (-23), 3) := by decide +kernel
theorem dX2_placesOf_30 : decode cX2_placesOf 30 = .ok (.iload_n 2, 1) := by decide +kernel
theorem dX2_placesOf_31 : decode cX2_placesOf 31 = .ok (.ireturn, 1) := by decide +kernel
theorem dX2_valueOfRun_0 : decode cX2_valueOfRun 0 = .ok (.iconst 0, 1) := by decide +kernel
theorem dX2_valueOfRun_1 : decode cX2_valueOfRun 1 = .ok (.istore_n 2, 1) := by decide +kernel
theorem dX2_valueOfRun_2 : decode cX2_valueOfRun 2 = .ok (.iconst 0, 1) := by decide +kernel
theorem dX2_valueOfRun_3 : decode cX2_valueOfRun 3 = .ok (.istore_n 3, 1) := by decide +kernel
theorem dX2_valueOfRun_4 : decode cX2_valueOfRun 4 = .ok (.iload_n 3, 1) := by decide +kernel
theorem dX2_valueOfRun_5 : decode cX2_valueOfRun 5 = .ok (.aload_n 0, 1) := by decide +kernel
theorem dX2_valueOfRun_6 : decode cX2_valueOfRun 6 = .ok (.getfield 21, 3) := by decide +kernel
theorem dX2_valueOfRun_9 : decode cX2_valueOfRun 9 = .ok (.if_icmp .ge 30, 3) := by decide +kernel
theorem dX2_valueOfRun_12 : decode cX2_valueOfRun 12 = .ok (.aload_n 0, 1) := by decide +kernel
theorem dX2_valueOfRun_13 : decode cX2_valueOfRun 13 = .ok (.iload_n 3, 1) := by decide +kernel
theorem dX2_valueOfRun_14 : decode cX2_valueOfRun 14 = .ok (.invokevirtual 73, 3) := by decide +kernel
theorem dX2_valueOfRun_17 : decode cX2_valueOfRun 17 = .ok (.iload_n 1, 1) := by decide +kernel
theorem dX2_valueOfRun_18 : decode cX2_valueOfRun 18 = .ok (.if_icmp .ne 15, 3) := by decide +kernel
theorem dX2_valueOfRun_21 : decode cX2_valueOfRun 21 = .ok (.iload_n 2, 1) := by decide +kernel
theorem dX2_valueOfRun_22 : decode cX2_valueOfRun 22 = .ok (.aload_n 0, 1) := by decide +kernel
theorem dX2_valueOfRun_23 : decode cX2_valueOfRun 23 = .ok (.aload_n 0, 1) := by decide +kernel
theorem dX2_valueOfRun_24 : decode cX2_valueOfRun 24 = .ok (.iload_n 3, 1) := by decide +kernel
theorem dX2_valueOfRun_25 : decode cX2_valueOfRun 25 = .ok (.invokevirtual 76, 3) := by decide +kernel
theorem dX2_valueOfRun_28 : decode cX2_valueOfRun 28 = .ok (.invokevirtual 79, 3) := by decide +kernel
theorem dX2_valueOfRun_31 : decode cX2_valueOfRun 31 = .ok (.iadd, 1) := by decide +kernel
theorem dX2_valueOfRun_32 : decode cX2_valueOfRun 32 = .ok (.istore_n 2, 1) := by decide +kernel
theorem dX2_valueOfRun_33 : decode cX2_valueOfRun 33 = .ok (.iinc 3 1, 3) := by decide +kernel
theorem dX2_valueOfRun_36 : decode cX2_valueOfRun 36 = .ok (.goto (-32), 3) := by decide +kernel
theorem dX2_valueOfRun_39 : decode cX2_valueOfRun 39 = .ok (.iload_n 2, 1) := by decide +kernel
theorem dX2_valueOfRun_40 : decode cX2_valueOfRun 40 = .ok (.ireturn, 1) := by decide +kernel
theorem dX2_placesOfNobody_0 : decode cX2_placesOfNobody 0 = .ok (.iconst 0, 1) := by decide +kernel
theorem dX2_placesOfNobody_1 : decode cX2_placesOfNobody 1 = .ok (.istore_n 1, 1) := by decide +kernel
theorem dX2_placesOfNobody_2 : decode cX2_placesOfNobody 2 = .ok (.iconst 0, 1) := by decide +kernel
theorem dX2_placesOfNobody_3 : decode cX2_placesOfNobody 3 = .ok (.istore_n 2, 1) := by decide +kernel
theorem dX2_placesOfNobody_4 : decode cX2_placesOfNobody 4 = .ok (.iload_n 2, 1) := by decide +kernel
theorem dX2_placesOfNobody_5 : decode cX2_placesOfNobody 5 = .ok (.aload_n 0, 1) := by decide +kernel
theorem dX2_placesOfNobody_6 : decode cX2_placesOfNobody 6 = .ok (.getfield 21, 3) := by decide +kernel
theorem dX2_placesOfNobody_9 : decode cX2_placesOfNobody 9 = .ok (.if_icmp .ge 21, 3) := by decide +kernel
theorem dX2_placesOfNobody_12 : decode cX2_placesOfNobody 12 = .ok (.aload_n 0, 1) := by decide +kernel
theorem dX2_placesOfNobody_13 : decode cX2_placesOfNobody 13 = .ok (.iload_n 2, 1) := by decide +kernel
theorem dX2_placesOfNobody_14 : decode cX2_placesOfNobody 14 = .ok (.invokevirtual 54, 3) := by decide +kernel
theorem dX2_placesOfNobody_17 : decode cX2_placesOfNobody 17 = .ok (.iconst (-1), 1) := by decide +kernel
theorem dX2_placesOfNobody_18 : decode cX2_placesOfNobody 18 = .ok (.if_icmp .ne 6, 3) := by decide +kernel
theorem dX2_placesOfNobody_21 : decode cX2_placesOfNobody 21 = .ok (.iinc 1 1, 3) := by decide +kernel
theorem dX2_placesOfNobody_24 : decode cX2_placesOfNobody 24 = .ok (.iinc 2 1, 3) := by decide +kernel
theorem dX2_placesOfNobody_27 : decode cX2_placesOfNobody 27 = .ok (.goto (-23), 3) := by decide +kernel
theorem dX2_placesOfNobody_30 : decode cX2_placesOfNobody 30 = .ok (.iload_n 1, 1) := by decide +kernel
theorem dX2_placesOfNobody_31 : decode cX2_placesOfNobody 31 = .ok (.ireturn, 1) := by decide +kernel
theorem dX2_holding_0 : decode cX2_holding 0 = .ok (.iconst 0, 1) := by decide +kernel
theorem dX2_holding_1 : decode cX2_holding 1 = .ok (.istore_n 3, 1) := by decide +kernel
theorem dX2_holding_2 : decode cX2_holding 2 = .ok (.iconst 0, 1) := by decide +kernel
theorem dX2_holding_3 : decode cX2_holding 3 = .ok (.istore 4, 2) := by decide +kernel
theorem dX2_holding_5 : decode cX2_holding 5 = .ok (.iload 4, 2) := by decide +kernel
theorem dX2_holding_7 : decode cX2_holding 7 = .ok (.aload_n 0, 1) := by decide +kernel
theorem dX2_holding_8 : decode cX2_holding 8 = .ok (.getfield 21, 3) := by decide +kernel
theorem dX2_holding_11 : decode cX2_holding 11 = .ok (.if_icmp .ge 46, 3) := by decide +kernel
theorem dX2_holding_14 : decode cX2_holding 14 = .ok (.aload_n 0, 1) := by decide +kernel
theorem dX2_holding_15 : decode cX2_holding 15 = .ok (.iload 4, 2) := by decide +kernel
theorem dX2_holding_17 : decode cX2_holding 17 = .ok (.invokevirtual 76, 3) := by decide +kernel
theorem dX2_holding_20 : decode cX2_holding 20 = .ok (.istore 5, 2) := by decide +kernel
theorem dX2_holding_22 : decode cX2_holding 22 = .ok (.aload_n 0, 1) := by decide +kernel
theorem dX2_holding_23 : decode cX2_holding 23 = .ok (.iload 4, 2) := by decide +kernel
theorem dX2_holding_25 : decode cX2_holding 25 = .ok (.invokevirtual 54, 3) := by decide +kernel
theorem dX2_holding_28 : decode cX2_holding 28 = .ok (.iload_n 1, 1) := by decide +kernel
theorem dX2_holding_29 : decode cX2_holding 29 = .ok (.if_icmp .ne 22, 3) := by decide +kernel
theorem dX2_holding_32 : decode cX2_holding 32 = .ok (.aload_n 0, 1) := by decide +kernel
theorem dX2_holding_33 : decode cX2_holding 33 = .ok (.iload 5, 2) := by decide +kernel
theorem dX2_holding_35 : decode cX2_holding 35 = .ok (.invokevirtual 43, 3) := by decide +kernel
theorem dX2_holding_38 : decode cX2_holding 38 = .ok (.iload_n 2, 1) := by decide +kernel
theorem dX2_holding_39 : decode cX2_holding 39 = .ok (.if_icmp .ne 12, 3) := by decide +kernel
theorem dX2_holding_42 : decode cX2_holding 42 = .ok (.iload_n 3, 1) := by decide +kernel
theorem dX2_holding_43 : decode cX2_holding 43 = .ok (.aload_n 0, 1) := by decide +kernel
theorem dX2_holding_44 : decode cX2_holding 44 = .ok (.iload 5, 2) := by decide +kernel
theorem dX2_holding_46 : decode cX2_holding 46 = .ok (.invokevirtual 79, 3) := by decide +kernel
theorem dX2_holding_49 : decode cX2_holding 49 = .ok (.iadd, 1) := by decide +kernel
theorem dX2_holding_50 : decode cX2_holding 50 = .ok (.istore_n 3, 1) := by decide +kernel
theorem dX2_holding_51 : decode cX2_holding 51 = .ok (.iinc 4 1, 3) := by decide +kernel
theorem dX2_holding_54 : decode cX2_holding 54 = .ok (.goto (-49), 3) := by decide +kernel
theorem dX2_holding_57 : decode cX2_holding 57 = .ok (.iload_n 3, 1) := by decide +kernel
theorem dX2_holding_58 : decode cX2_holding 58 = .ok (.ireturn, 1) := by decide +kernel
theorem dX2_gap_0 : decode cX2_gap 0 = .ok (.iconst 0, 1) := by decide +kernel
theorem dX2_gap_1 : decode cX2_gap 1 = .ok (.istore_n 1, 1) := by decide +kernel
theorem dX2_gap_2 : decode cX2_gap 2 = .ok (.iconst 0, 1) := by decide +kernel
theorem dX2_gap_3 : decode cX2_gap 3 = .ok (.istore_n 2, 1) := by decide +kernel
theorem dX2_gap_4 : decode cX2_gap 4 = .ok (.iload_n 2, 1) := by decide +kernel
theorem dX2_gap_5 : decode cX2_gap 5 = .ok (.iconst 4, 1) := by decide +kernel
theorem dX2_gap_6 : decode cX2_gap 6 = .ok (.if_icmp .ge 28, 3) := by decide +kernel
theorem dX2_gap_9 : decode cX2_gap 9 = .ok (.iload_n 1, 1) := by decide +kernel
theorem dX2_gap_10 : decode cX2_gap 10 = .ok (.aload_n 0, 1) := by decide +kernel
theorem dX2_gap_11 : decode cX2_gap 11 = .ok (.iconst 0, 1) := by decide +kernel
theorem dX2_gap_12 : decode cX2_gap 12 = .ok (.iload_n 2, 1) := by decide +kernel
theorem dX2_gap_13 : decode cX2_gap 13 = .ok (.invokevirtual 82, 3) := by decide +kernel
theorem dX2_gap_16 : decode cX2_gap 16 = .ok (.aload_n 0, 1) := by decide +kernel
theorem dX2_gap_17 : decode cX2_gap 17 = .ok (.iconst 1, 1) := by decide +kernel
theorem dX2_gap_18 : decode cX2_gap 18 = .ok (.iload_n 2, 1) := by decide +kernel
theorem dX2_gap_19 : decode cX2_gap 19 = .ok (.invokevirtual 82, 3) := by decide +kernel
theorem dX2_gap_22 : decode cX2_gap 22 = .ok (.isub, 1) := by decide +kernel
theorem dX2_gap_23 : decode cX2_gap 23 = .ok (.invokestatic 86, 3) := by decide +kernel
theorem dX2_gap_26 : decode cX2_gap 26 = .ok (.iadd, 1) := by decide +kernel
theorem dX2_gap_27 : decode cX2_gap 27 = .ok (.istore_n 1, 1) := by decide +kernel
theorem dX2_gap_28 : decode cX2_gap 28 = .ok (.iinc 2 1, 3) := by decide +kernel
theorem dX2_gap_31 : decode cX2_gap 31 = .ok (.goto (-27), 3) := by decide +kernel
theorem dX2_gap_34 : decode cX2_gap 34 = .ok (.iload_n 1, 1) := by decide +kernel
theorem dX2_gap_35 : decode cX2_gap 35 = .ok (.ireturn, 1) := by decide +kernel
theorem dX2_isFair_0 : decode cX2_isFair 0 = .ok (.aload_n 0, 1) := by decide +kernel
theorem dX2_isFair_1 : decode cX2_isFair 1 = .ok (.invokevirtual 91, 3) := by decide +kernel
theorem dX2_isFair_4 : decode cX2_isFair 4 = .ok (.ifCond .ne 14, 3) := by decide +kernel
theorem dX2_isFair_7 : decode cX2_isFair 7 = .ok (.aload_n 0, 1) := by decide +kernel
theorem dX2_isFair_8 : decode cX2_isFair 8 = .ok (.invokevirtual 94, 3) := by decide +kernel
theorem dX2_isFair_11 : decode cX2_isFair 11 = .ok (.ifCond .ne 7, 3) := by decide +kernel
theorem dX2_isFair_14 : decode cX2_isFair 14 = .ok (.iconst 1, 1) := by decide +kernel
theorem dX2_isFair_15 : decode cX2_isFair 15 = .ok (.goto 4, 3) := by decide +kernel
theorem dX2_isFair_18 : decode cX2_isFair 18 = .ok (.iconst 0, 1) := by decide +kernel
theorem dX2_isFair_19 : decode cX2_isFair 19 = .ok (.ireturn, 1) := by decide +kernel
theorem dX2_reasonAgainstTaking_0 : decode cX2_reasonAgainstTaking 0 = .ok (.aload_n 0, 1) := by decide +kernel
theorem dX2_reasonAgainstTaking_1 : decode cX2_reasonAgainstTaking 1 = .ok (.aload_n 0, 1) := by decide +kernel
theorem dX2_reasonAgainstTaking_2 : decode cX2_reasonAgainstTaking 2 = .ok (.iload_n 1, 1) := by decide +kernel
theorem dX2_reasonAgainstTaking_3 : decode cX2_reasonAgainstTaking 3 = .ok (.invokevirtual 97, 3) := by decide +kernel
theorem dX2_reasonAgainstTaking_6 : decode cX2_reasonAgainstTaking 6 = .ok (.invokevirtual 54, 3) := by decide +kernel
theorem dX2_reasonAgainstTaking_9 : decode cX2_reasonAgainstTaking 9 = .ok (.istore_n 2, 1) := by decide +kernel
theorem dX2_reasonAgainstTaking_10 : decode cX2_reasonAgainstTaking 10 = .ok (.iload_n 2, 1) := by decide +kernel
theorem dX2_reasonAgainstTaking_11 : decode cX2_reasonAgainstTaking 11 = .ok (.iconst (-1), 1) := by decide +kernel
theorem dX2_reasonAgainstTaking_12 : decode cX2_reasonAgainstTaking 12 = .ok (.if_icmp .ne 5, 3) := by decide +kernel
theorem dX2_reasonAgainstTaking_15 : decode cX2_reasonAgainstTaking 15 = .ok (.iconst 0, 1) := by decide +kernel
theorem dX2_reasonAgainstTaking_16 : decode cX2_reasonAgainstTaking 16 = .ok (.ireturn, 1) := by decide +kernel
theorem dX2_reasonAgainstTaking_17 : decode cX2_reasonAgainstTaking 17 = .ok (.iload_n 2, 1) := by decide +kernel
theorem dX2_reasonAgainstTaking_18 : decode cX2_reasonAgainstTaking 18 = .ok (.aload_n 0, 1) := by decide +kernel
theorem dX2_reasonAgainstTaking_19 : decode cX2_reasonAgainstTaking 19 = .ok (.getfield 28, 3) := by decide +kernel
theorem dX2_reasonAgainstTaking_22 : decode cX2_reasonAgainstTaking 22 = .ok (.if_icmp .ne 7, 3) := by decide +kernel
theorem dX2_reasonAgainstTaking_25 : decode cX2_reasonAgainstTaking 25 = .ok (.iconst 2, 1) := by decide +kernel
theorem dX2_reasonAgainstTaking_26 : decode cX2_reasonAgainstTaking 26 = .ok (.goto 4, 3) := by decide +kernel
theorem dX2_reasonAgainstTaking_29 : decode cX2_reasonAgainstTaking 29 = .ok (.iconst 1, 1) := by decide +kernel
theorem dX2_reasonAgainstTaking_30 : decode cX2_reasonAgainstTaking 30 = .ok (.ireturn, 1) := by decide +kernel
theorem dX2_loosen_0 : decode cX2_loosen 0 = .ok (.aload_n 0, 1) := by decide +kernel
theorem dX2_loosen_1 : decode cX2_loosen 1 = .ok (.iconst 0, 1) := by decide +kernel
theorem dX2_loosen_2 : decode cX2_loosen 2 = .ok (.putfield 40, 3) := by decide +kernel
theorem dX2_loosen_5 : decode cX2_loosen 5 = .ok (.iconst 0, 1) := by decide +kernel
theorem dX2_loosen_6 : decode cX2_loosen 6 = .ok (.istore_n 1, 1) := by decide +kernel
theorem dX2_loosen_7 : decode cX2_loosen 7 = .ok (.iload_n 1, 1) := by decide +kernel
theorem dX2_loosen_8 : decode cX2_loosen 8 = .ok (.bipush 16, 2) := by decide +kernel
theorem dX2_loosen_10 : decode cX2_loosen 10 = .ok (.if_icmp .ge 15, 3) := by decide +kernel
theorem dX2_loosen_13 : decode cX2_loosen 13 = .ok (.aload_n 0, 1) := by decide +kernel
theorem dX2_loosen_14 : decode cX2_loosen 14 = .ok (.iload_n 1, 1) := by decide +kernel
theorem dX2_loosen_15 : decode cX2_loosen 15 = .ok (.iconst (-1), 1) := by decide +kernel
theorem dX2_loosen_16 : decode cX2_loosen 16 = .ok (.invokevirtual 57, 3) := by decide +kernel
theorem dX2_loosen_19 : decode cX2_loosen 19 = .ok (.iinc 1 1, 3) := by decide +kernel
theorem dX2_loosen_22 : decode cX2_loosen 22 = .ok (.goto (-15), 3) := by decide +kernel
theorem dX2_loosen_25 : decode cX2_loosen 25 = .ok (.return_, 1) := by decide +kernel
theorem dX2_addJewel_0 : decode cX2_addJewel 0 = .ok (.iload_n 1, 1) := by decide +kernel
theorem dX2_addJewel_1 : decode cX2_addJewel 1 = .ok (.invokestatic 100, 3) := by decide +kernel
theorem dX2_addJewel_4 : decode cX2_addJewel 4 = .ok (.ifCond .eq 19, 3) := by decide +kernel
theorem dX2_addJewel_7 : decode cX2_addJewel 7 = .ok (.iload_n 2, 1) := by decide +kernel
theorem dX2_addJewel_8 : decode cX2_addJewel 8 = .ok (.invokestatic 104, 3) := by decide +kernel
theorem dX2_addJewel_11 : decode cX2_addJewel 11 = .ok (.ifCond .eq 12, 3) := by decide +kernel
theorem dX2_addJewel_14 : decode cX2_addJewel 14 = .ok (.aload_n 0, 1) := by decide +kernel
theorem dX2_addJewel_15 : decode cX2_addJewel 15 = .ok (.getfield 21, 3) := by decide +kernel
theorem dX2_addJewel_18 : decode cX2_addJewel 18 = .ok (.bipush 16, 2) := by decide +kernel
theorem dX2_addJewel_20 : decode cX2_addJewel 20 = .ok (.if_icmp .lt 5, 3) := by decide +kernel
theorem dX2_addJewel_23 : decode cX2_addJewel 23 = .ok (.iconst 0, 1) := by decide +kernel
theorem dX2_addJewel_24 : decode cX2_addJewel 24 = .ok (.ireturn, 1) := by decide +kernel
theorem dX2_addJewel_25 : decode cX2_addJewel 25 = .ok (.aload_n 0, 1) := by decide +kernel
theorem dX2_addJewel_26 : decode cX2_addJewel 26 = .ok (.aload_n 0, 1) := by decide +kernel
theorem dX2_addJewel_27 : decode cX2_addJewel 27 = .ok (.getfield 21, 3) := by decide +kernel
theorem dX2_addJewel_30 : decode cX2_addJewel 30 = .ok (.iload_n 1, 1) := by decide +kernel
theorem dX2_addJewel_31 : decode cX2_addJewel 31 = .ok (.iload_n 2, 1) := by decide +kernel
theorem dX2_addJewel_32 : decode cX2_addJewel 32 = .ok (.invokevirtual 50, 3) := by decide +kernel
theorem dX2_addJewel_35 : decode cX2_addJewel 35 = .ok (.aload_n 0, 1) := by decide +kernel
theorem dX2_addJewel_36 : decode cX2_addJewel 36 = .ok (.dup, 1) := by decide +kernel
theorem dX2_addJewel_37 : decode cX2_addJewel 37 = .ok (.getfield 21, 3) := by decide +kernel
theorem dX2_addJewel_40 : decode cX2_addJewel 40 = .ok (.iconst 1, 1) := by decide +kernel
theorem dX2_addJewel_41 : decode cX2_addJewel 41 = .ok (.iadd, 1) := by decide +kernel
theorem dX2_addJewel_42 : decode cX2_addJewel 42 = .ok (.putfield 21, 3) := by decide +kernel
theorem dX2_addJewel_45 : decode cX2_addJewel 45 = .ok (.aload_n 0, 1) := by decide +kernel
theorem dX2_addJewel_46 : decode cX2_addJewel 46 = .ok (.invokevirtual 37, 3) := by decide +kernel
theorem dX2_addJewel_49 : decode cX2_addJewel 49 = .ok (.iconst 1, 1) := by decide +kernel
theorem dX2_addJewel_50 : decode cX2_addJewel 50 = .ok (.ireturn, 1) := by decide +kernel
theorem dX2_swapJewels_0 : decode cX2_swapJewels 0 = .ok (.aload_n 0, 1) := by decide +kernel
theorem dX2_swapJewels_1 : decode cX2_swapJewels 1 = .ok (.iload_n 1, 1) := by decide +kernel
theorem dX2_swapJewels_2 : decode cX2_swapJewels 2 = .ok (.invokevirtual 107, 3) := by decide +kernel
theorem dX2_swapJewels_5 : decode cX2_swapJewels 5 = .ok (.ifCond .eq 11, 3) := by decide +kernel
theorem dX2_swapJewels_8 : decode cX2_swapJewels 8 = .ok (.aload_n 0, 1) := by decide +kernel
theorem dX2_swapJewels_9 : decode cX2_swapJewels 9 = .ok (.iload_n 2, 1) := by decide +kernel
theorem dX2_swapJewels_10 : decode cX2_swapJewels 10 = .ok (.invokevirtual 107, 3) := by decide +kernel
theorem dX2_swapJewels_13 : decode cX2_swapJewels 13 = .ok (.ifCond .ne 5, 3) := by decide +kernel
theorem dX2_swapJewels_16 : decode cX2_swapJewels 16 = .ok (.iconst 0, 1) := by decide +kernel
theorem dX2_swapJewels_17 : decode cX2_swapJewels 17 = .ok (.ireturn, 1) := by decide +kernel
theorem dX2_swapJewels_18 : decode cX2_swapJewels 18 = .ok (.aload_n 0, 1) := by decide +kernel
theorem dX2_swapJewels_19 : decode cX2_swapJewels 19 = .ok (.iload_n 1, 1) := by decide +kernel
theorem dX2_swapJewels_20 : decode cX2_swapJewels 20 = .ok (.invokevirtual 43, 3) := by decide +kernel
theorem dX2_swapJewels_23 : decode cX2_swapJewels 23 = .ok (.istore_n 3, 1) := by decide +kernel
theorem dX2_swapJewels_24 : decode cX2_swapJewels 24 = .ok (.aload_n 0, 1) := by decide +kernel
theorem dX2_swapJewels_25 : decode cX2_swapJewels 25 = .ok (.iload_n 1, 1) := by decide +kernel
theorem dX2_swapJewels_26 : decode cX2_swapJewels 26 = .ok (.invokevirtual 47, 3) := by decide +kernel
theorem dX2_swapJewels_29 : decode cX2_swapJewels 29 = .ok (.istore 4, 2) := by decide +kernel
theorem dX2_swapJewels_31 : decode cX2_swapJewels 31 = .ok (.aload_n 0, 1) := by decide +kernel
theorem dX2_swapJewels_32 : decode cX2_swapJewels 32 = .ok (.iload_n 1, 1) := by decide +kernel
theorem dX2_swapJewels_33 : decode cX2_swapJewels 33 = .ok (.aload_n 0, 1) := by decide +kernel
theorem dX2_swapJewels_34 : decode cX2_swapJewels 34 = .ok (.iload_n 2, 1) := by decide +kernel
theorem dX2_swapJewels_35 : decode cX2_swapJewels 35 = .ok (.invokevirtual 43, 3) := by decide +kernel
theorem dX2_swapJewels_38 : decode cX2_swapJewels 38 = .ok (.aload_n 0, 1) := by decide +kernel
theorem dX2_swapJewels_39 : decode cX2_swapJewels 39 = .ok (.iload_n 2, 1) := by decide +kernel
theorem dX2_swapJewels_40 : decode cX2_swapJewels 40 = .ok (.invokevirtual 47, 3) := by decide +kernel
theorem dX2_swapJewels_43 : decode cX2_swapJewels 43 = .ok (.invokevirtual 50, 3) := by decide +kernel
theorem dX2_swapJewels_46 : decode cX2_swapJewels 46 = .ok (.aload_n 0, 1) := by decide +kernel
theorem dX2_swapJewels_47 : decode cX2_swapJewels 47 = .ok (.iload_n 2, 1) := by decide +kernel
theorem dX2_swapJewels_48 : decode cX2_swapJewels 48 = .ok (.iload_n 3, 1) := by decide +kernel
theorem dX2_swapJewels_49 : decode cX2_swapJewels 49 = .ok (.iload 4, 2) := by decide +kernel
theorem dX2_swapJewels_51 : decode cX2_swapJewels 51 = .ok (.invokevirtual 50, 3) := by decide +kernel
theorem dX2_swapJewels_54 : decode cX2_swapJewels 54 = .ok (.iconst 1, 1) := by decide +kernel
theorem dX2_swapJewels_55 : decode cX2_swapJewels 55 = .ok (.ireturn, 1) := by decide +kernel
theorem dX2_breakAhead_0 : decode cX2_breakAhead 0 = .ok (.aload_n 0, 1) := by decide +kernel
theorem dX2_breakAhead_1 : decode cX2_breakAhead 1 = .ok (.iload_n 1, 1) := by decide +kernel
theorem dX2_breakAhead_2 : decode cX2_breakAhead 2 = .ok (.invokevirtual 107, 3) := by decide +kernel
theorem dX2_breakAhead_5 : decode cX2_breakAhead 5 = .ok (.ifCond .ne 5, 3) := by decide +kernel
theorem dX2_breakAhead_8 : decode cX2_breakAhead 8 = .ok (.iconst 0, 1) := by decide +kernel
theorem dX2_breakAhead_9 : decode cX2_breakAhead 9 = .ok (.ireturn, 1) := by decide +kernel
theorem dX2_breakAhead_10 : decode cX2_breakAhead 10 = .ok (.aload_n 0, 1) := by decide +kernel
theorem dX2_breakAhead_11 : decode cX2_breakAhead 11 = .ok (.iload_n 1, 1) := by decide +kernel
theorem dX2_breakAhead_12 : decode cX2_breakAhead 12 = .ok (.putfield 25, 3) := by decide +kernel
theorem dX2_breakAhead_15 : decode cX2_breakAhead 15 = .ok (.aload_n 0, 1) := by decide +kernel
theorem dX2_breakAhead_16 : decode cX2_breakAhead 16 = .ok (.invokevirtual 37, 3) := by decide +kernel
theorem dX2_breakAhead_19 : decode cX2_breakAhead 19 = .ok (.iconst 1, 1) := by decide +kernel
theorem dX2_breakAhead_20 : decode cX2_breakAhead 20 = .ok (.ireturn, 1) := by decide +kernel
theorem dX2_reverseRing_0 : decode cX2_reverseRing 0 = .ok (.iconst 0, 1) := by decide +kernel
theorem dX2_reverseRing_1 : decode cX2_reverseRing 1 = .ok (.istore_n 1, 1) := by decide +kernel
theorem dX2_reverseRing_2 : decode cX2_reverseRing 2 = .ok (.iload_n 1, 1) := by decide +kernel
theorem dX2_reverseRing_3 : decode cX2_reverseRing 3 = .ok (.aload_n 0, 1) := by decide +kernel
theorem dX2_reverseRing_4 : decode cX2_reverseRing 4 = .ok (.getfield 21, 3) := by decide +kernel
theorem dX2_reverseRing_7 : decode cX2_reverseRing 7 = .ok (.iconst 1, 1) := by decide +kernel
theorem dX2_reverseRing_8 : decode cX2_reverseRing 8 = .ok (.isub, 1) := by decide +kernel
theorem dX2_reverseRing_9 : decode cX2_reverseRing 9 = .ok (.iload_n 1, 1) := by decide +kernel
theorem dX2_reverseRing_10 : decode cX2_reverseRing 10 = .ok (.isub, 1) := by decide +kernel
theorem dX2_reverseRing_11 : decode cX2_reverseRing 11 = .ok (.if_icmp .ge 23, 3) := by decide +kernel
theorem dX2_reverseRing_14 : decode cX2_reverseRing 14 = .ok (.aload_n 0, 1) := by decide +kernel
theorem dX2_reverseRing_15 : decode cX2_reverseRing 15 = .ok (.iload_n 1, 1) := by decide +kernel
theorem dX2_reverseRing_16 : decode cX2_reverseRing 16 = .ok (.aload_n 0, 1) := by decide +kernel
theorem dX2_reverseRing_17 : decode cX2_reverseRing 17 = .ok (.getfield 21, 3) := by decide +kernel
theorem dX2_reverseRing_20 : decode cX2_reverseRing 20 = .ok (.iconst 1, 1) := by decide +kernel
theorem dX2_reverseRing_21 : decode cX2_reverseRing 21 = .ok (.isub, 1) := by decide +kernel
theorem dX2_reverseRing_22 : decode cX2_reverseRing 22 = .ok (.iload_n 1, 1) := by decide +kernel
theorem dX2_reverseRing_23 : decode cX2_reverseRing 23 = .ok (.isub, 1) := by decide +kernel
theorem dX2_reverseRing_24 : decode cX2_reverseRing 24 = .ok (.invokevirtual 110, 3) := by decide +kernel
theorem dX2_reverseRing_27 : decode cX2_reverseRing 27 = .ok (.pop, 1) := by decide +kernel
theorem dX2_reverseRing_28 : decode cX2_reverseRing 28 = .ok (.iinc 1 1, 3) := by decide +kernel
theorem dX2_reverseRing_31 : decode cX2_reverseRing 31 = .ok (.goto (-29), 3) := by decide +kernel
theorem dX2_reverseRing_34 : decode cX2_reverseRing 34 = .ok (.aload_n 0, 1) := by decide +kernel
theorem dX2_reverseRing_35 : decode cX2_reverseRing 35 = .ok (.invokevirtual 37, 3) := by decide +kernel
theorem dX2_reverseRing_38 : decode cX2_reverseRing 38 = .ok (.return_, 1) := by decide +kernel
theorem dX2_setCut_0 : decode cX2_setCut 0 = .ok (.aload_n 0, 1) := by decide +kernel
theorem dX2_setCut_1 : decode cX2_setCut 1 = .ok (.iload_n 1, 1) := by decide +kernel
theorem dX2_setCut_2 : decode cX2_setCut 2 = .ok (.invokevirtual 114, 3) := by decide +kernel
theorem dX2_setCut_5 : decode cX2_setCut 5 = .ok (.ifCond .ne 5, 3) := by decide +kernel
theorem dX2_setCut_8 : decode cX2_setCut 8 = .ok (.iconst 0, 1) := by decide +kernel
theorem dX2_setCut_9 : decode cX2_setCut 9 = .ok (.ireturn, 1) := by decide +kernel
theorem dX2_setCut_10 : decode cX2_setCut 10 = .ok (.iload_n 2, 1) := by decide +kernel
theorem dX2_setCut_11 : decode cX2_setCut 11 = .ok (.ifCond .eq 18, 3) := by decide +kernel
theorem dX2_setCut_14 : decode cX2_setCut 14 = .ok (.aload_n 0, 1) := by decide +kernel
theorem dX2_setCut_15 : decode cX2_setCut 15 = .ok (.dup, 1) := by decide +kernel
theorem dX2_setCut_16 : decode cX2_setCut 16 = .ok (.getfield 40, 3) := by decide +kernel
theorem dX2_setCut_19 : decode cX2_setCut 19 = .ok (.iconst 1, 1) := by decide +kernel
theorem dX2_setCut_20 : decode cX2_setCut 20 = .ok (.iload_n 1, 1) := by decide +kernel
theorem dX2_setCut_21 : decode cX2_setCut 21 = .ok (.ishl, 1) := by decide +kernel
theorem dX2_setCut_22 : decode cX2_setCut 22 = .ok (.ior, 1) := by decide +kernel
theorem dX2_setCut_23 : decode cX2_setCut 23 = .ok (.putfield 40, 3) := by decide +kernel
theorem dX2_setCut_26 : decode cX2_setCut 26 = .ok (.goto 42, 3) := by decide +kernel
theorem dX2_setCut_29 : decode cX2_setCut 29 = .ok (.aload_n 0, 1) := by decide +kernel
theorem dX2_setCut_30 : decode cX2_setCut 30 = .ok (.iload_n 1, 1) := by decide +kernel
theorem dX2_setCut_31 : decode cX2_setCut 31 = .ok (.invokevirtual 117, 3) := by decide +kernel
theorem dX2_setCut_34 : decode cX2_setCut 34 = .ok (.ifCond .eq 34, 3) := by decide +kernel
theorem dX2_setCut_37 : decode cX2_setCut 37 = .ok (.aload_n 0, 1) := by decide +kernel
theorem dX2_setCut_38 : decode cX2_setCut 38 = .ok (.dup, 1) := by decide +kernel
theorem dX2_setCut_39 : decode cX2_setCut 39 = .ok (.getfield 40, 3) := by decide +kernel
theorem dX2_setCut_42 : decode cX2_setCut 42 = .ok (.iconst 1, 1) := by decide +kernel
theorem dX2_setCut_43 : decode cX2_setCut 43 = .ok (.iload_n 1, 1) := by decide +kernel
theorem dX2_setCut_44 : decode cX2_setCut 44 = .ok (.ishl, 1) := by decide +kernel
theorem dX2_setCut_45 : decode cX2_setCut 45 = .ok (.iconst (-1), 1) := by decide +kernel
theorem dX2_setCut_46 : decode cX2_setCut 46 = .ok (.ixor, 1) := by decide +kernel
theorem dX2_setCut_47 : decode cX2_setCut 47 = .ok (.iand, 1) := by decide +kernel
theorem dX2_setCut_48 : decode cX2_setCut 48 = .ok (.putfield 40, 3) := by decide +kernel
theorem dX2_setCut_51 : decode cX2_setCut 51 = .ok (.aload_n 0, 1) := by decide +kernel
theorem dX2_setCut_52 : decode cX2_setCut 52 = .ok (.aload_n 0, 1) := by decide +kernel
theorem dX2_setCut_53 : decode cX2_setCut 53 = .ok (.iload_n 1, 1) := by decide +kernel
theorem dX2_setCut_54 : decode cX2_setCut 54 = .ok (.invokevirtual 73, 3) := by decide +kernel
theorem dX2_setCut_57 : decode cX2_setCut 57 = .ok (.aload_n 0, 1) := by decide +kernel
theorem dX2_setCut_58 : decode cX2_setCut 58 = .ok (.iload_n 1, 1) := by decide +kernel
theorem dX2_setCut_59 : decode cX2_setCut 59 = .ok (.iconst 1, 1) := by decide +kernel
theorem dX2_setCut_60 : decode cX2_setCut 60 = .ok (.isub, 1) := by decide +kernel
theorem dX2_setCut_61 : decode cX2_setCut 61 = .ok (.invokevirtual 54, 3) := by decide +kernel
theorem dX2_setCut_64 : decode cX2_setCut 64 = .ok (.invokevirtual 120, 3) := by decide +kernel
theorem dX2_setCut_67 : decode cX2_setCut 67 = .ok (.pop, 1) := by decide +kernel
theorem dX2_setCut_68 : decode cX2_setCut 68 = .ok (.iconst 1, 1) := by decide +kernel
theorem dX2_setCut_69 : decode cX2_setCut 69 = .ok (.ireturn, 1) := by decide +kernel
theorem dX2_giveRun_0 : decode cX2_giveRun 0 = .ok (.aload_n 0, 1) := by decide +kernel
theorem dX2_giveRun_1 : decode cX2_giveRun 1 = .ok (.iload_n 1, 1) := by decide +kernel
theorem dX2_giveRun_2 : decode cX2_giveRun 2 = .ok (.invokevirtual 123, 3) := by decide +kernel
theorem dX2_giveRun_5 : decode cX2_giveRun 5 = .ok (.ifCond .eq 10, 3) := by decide +kernel
theorem dX2_giveRun_8 : decode cX2_giveRun 8 = .ok (.iload_n 2, 1) := by decide +kernel
theorem dX2_giveRun_9 : decode cX2_giveRun 9 = .ok (.invokestatic 126, 3) := by decide +kernel
theorem dX2_giveRun_12 : decode cX2_giveRun 12 = .ok (.ifCond .ne 5, 3) := by decide +kernel
theorem dX2_giveRun_15 : decode cX2_giveRun 15 = .ok (.iconst 0, 1) := by decide +kernel
theorem dX2_giveRun_16 : decode cX2_giveRun 16 = .ok (.ireturn, 1) := by decide +kernel
theorem dX2_giveRun_17 : decode cX2_giveRun 17 = .ok (.iconst 0, 1) := by decide +kernel
theorem dX2_giveRun_18 : decode cX2_giveRun 18 = .ok (.istore_n 3, 1) := by decide +kernel
theorem dX2_giveRun_19 : decode cX2_giveRun 19 = .ok (.iload_n 3, 1) := by decide +kernel
theorem dX2_giveRun_20 : decode cX2_giveRun 20 = .ok (.aload_n 0, 1) := by decide +kernel
theorem dX2_giveRun_21 : decode cX2_giveRun 21 = .ok (.getfield 21, 3) := by decide +kernel
theorem dX2_giveRun_24 : decode cX2_giveRun 24 = .ok (.if_icmp .ge 24, 3) := by decide +kernel
theorem dX2_giveRun_27 : decode cX2_giveRun 27 = .ok (.aload_n 0, 1) := by decide +kernel
theorem dX2_giveRun_28 : decode cX2_giveRun 28 = .ok (.iload_n 3, 1) := by decide +kernel
theorem dX2_giveRun_29 : decode cX2_giveRun 29 = .ok (.invokevirtual 73, 3) := by decide +kernel
theorem dX2_giveRun_32 : decode cX2_giveRun 32 = .ok (.iload_n 1, 1) := by decide +kernel
theorem dX2_giveRun_33 : decode cX2_giveRun 33 = .ok (.if_icmp .ne 9, 3) := by decide +kernel
theorem dX2_giveRun_36 : decode cX2_giveRun 36 = .ok (.aload_n 0, 1) := by decide +kernel
theorem dX2_giveRun_37 : decode cX2_giveRun 37 = .ok (.iload_n 3, 1) := by decide +kernel
theorem dX2_giveRun_38 : decode cX2_giveRun 38 = .ok (.iload_n 2, 1) := by decide +kernel
theorem dX2_giveRun_39 : decode cX2_giveRun 39 = .ok (.invokevirtual 57, 3) := by decide +kernel
theorem dX2_giveRun_42 : decode cX2_giveRun 42 = .ok (.iinc 3 1, 3) := by decide +kernel
theorem dX2_giveRun_45 : decode cX2_giveRun 45 = .ok (.goto (-26), 3) := by decide +kernel
theorem dX2_giveRun_48 : decode cX2_giveRun 48 = .ok (.iconst 1, 1) := by decide +kernel
theorem dX2_giveRun_49 : decode cX2_giveRun 49 = .ok (.ireturn, 1) := by decide +kernel
theorem dX2_takeRun_0 : decode cX2_takeRun 0 = .ok (.aload_n 0, 1) := by decide +kernel
theorem dX2_takeRun_1 : decode cX2_takeRun 1 = .ok (.iload_n 1, 1) := by decide +kernel
theorem dX2_takeRun_2 : decode cX2_takeRun 2 = .ok (.invokevirtual 123, 3) := by decide +kernel
theorem dX2_takeRun_5 : decode cX2_takeRun 5 = .ok (.ifCond .eq 11, 3) := by decide +kernel
theorem dX2_takeRun_8 : decode cX2_takeRun 8 = .ok (.aload_n 0, 1) := by decide +kernel
theorem dX2_takeRun_9 : decode cX2_takeRun 9 = .ok (.iload_n 1, 1) := by decide +kernel
theorem dX2_takeRun_10 : decode cX2_takeRun 10 = .ok (.invokevirtual 129, 3) := by decide +kernel
theorem dX2_takeRun_13 : decode cX2_takeRun 13 = .ok (.ifCond .eq 5, 3) := by decide +kernel
theorem dX2_takeRun_16 : decode cX2_takeRun 16 = .ok (.iconst 0, 1) := by decide +kernel
theorem dX2_takeRun_17 : decode cX2_takeRun 17 = .ok (.ireturn, 1) := by decide +kernel
theorem dX2_takeRun_18 : decode cX2_takeRun 18 = .ok (.aload_n 0, 1) := by decide +kernel
theorem dX2_takeRun_19 : decode cX2_takeRun 19 = .ok (.iload_n 1, 1) := by decide +kernel
theorem dX2_takeRun_20 : decode cX2_takeRun 20 = .ok (.aload_n 0, 1) := by decide +kernel
theorem dX2_takeRun_21 : decode cX2_takeRun 21 = .ok (.getfield 28, 3) := by decide +kernel
theorem dX2_takeRun_24 : decode cX2_takeRun 24 = .ok (.invokevirtual 120, 3) := by decide +kernel
theorem dX2_takeRun_27 : decode cX2_takeRun 27 = .ok (.pop, 1) := by decide +kernel
theorem dX2_takeRun_28 : decode cX2_takeRun 28 = .ok (.aload_n 0, 1) := by decide +kernel
theorem dX2_takeRun_29 : decode cX2_takeRun 29 = .ok (.iconst 1, 1) := by decide +kernel
theorem dX2_takeRun_30 : decode cX2_takeRun 30 = .ok (.aload_n 0, 1) := by decide +kernel
theorem dX2_takeRun_31 : decode cX2_takeRun 31 = .ok (.getfield 28, 3) := by decide +kernel
theorem dX2_takeRun_34 : decode cX2_takeRun 34 = .ok (.isub, 1) := by decide +kernel
theorem dX2_takeRun_35 : decode cX2_takeRun 35 = .ok (.putfield 28, 3) := by decide +kernel
theorem dX2_takeRun_38 : decode cX2_takeRun 38 = .ok (.iconst 1, 1) := by decide +kernel
theorem dX2_takeRun_39 : decode cX2_takeRun 39 = .ok (.ireturn, 1) := by decide +kernel
theorem dX2_dealRuns_0 : decode cX2_dealRuns 0 = .ok (.iload_n 1, 1) := by decide +kernel
theorem dX2_dealRuns_1 : decode cX2_dealRuns 1 = .ok (.invokestatic 132, 3) := by decide +kernel
theorem dX2_dealRuns_4 : decode cX2_dealRuns 4 = .ok (.ifCond .ne 5, 3) := by decide +kernel
theorem dX2_dealRuns_7 : decode cX2_dealRuns 7 = .ok (.iconst 0, 1) := by decide +kernel
theorem dX2_dealRuns_8 : decode cX2_dealRuns 8 = .ok (.ireturn, 1) := by decide +kernel
theorem dX2_dealRuns_9 : decode cX2_dealRuns 9 = .ok (.iconst 0, 1) := by decide +kernel
theorem dX2_dealRuns_10 : decode cX2_dealRuns 10 = .ok (.istore_n 2, 1) := by decide +kernel
theorem dX2_dealRuns_11 : decode cX2_dealRuns 11 = .ok (.iload_n 2, 1) := by decide +kernel
theorem dX2_dealRuns_12 : decode cX2_dealRuns 12 = .ok (.aload_n 0, 1) := by decide +kernel
theorem dX2_dealRuns_13 : decode cX2_dealRuns 13 = .ok (.getfield 21, 3) := by decide +kernel
theorem dX2_dealRuns_16 : decode cX2_dealRuns 16 = .ok (.if_icmp .ge 23, 3) := by decide +kernel
theorem dX2_dealRuns_19 : decode cX2_dealRuns 19 = .ok (.aload_n 0, 1) := by decide +kernel
theorem dX2_dealRuns_20 : decode cX2_dealRuns 20 = .ok (.iload_n 2, 1) := by decide +kernel
theorem dX2_dealRuns_21 : decode cX2_dealRuns 21 = .ok (.iload_n 1, 1) := by decide +kernel
theorem dX2_dealRuns_22 : decode cX2_dealRuns 22 = .ok (.aload_n 0, 1) := by decide +kernel
theorem dX2_dealRuns_23 : decode cX2_dealRuns 23 = .ok (.iload_n 2, 1) := by decide +kernel
theorem dX2_dealRuns_24 : decode cX2_dealRuns 24 = .ok (.invokevirtual 73, 3) := by decide +kernel
theorem dX2_dealRuns_27 : decode cX2_dealRuns 27 = .ok (.iadd, 1) := by decide +kernel
theorem dX2_dealRuns_28 : decode cX2_dealRuns 28 = .ok (.iconst 1, 1) := by decide +kernel
theorem dX2_dealRuns_29 : decode cX2_dealRuns 29 = .ok (.iand, 1) := by decide +kernel
theorem dX2_dealRuns_30 : decode cX2_dealRuns 30 = .ok (.invokevirtual 57, 3) := by decide +kernel
theorem dX2_dealRuns_33 : decode cX2_dealRuns 33 = .ok (.iinc 2 1, 3) := by decide +kernel
theorem dX2_dealRuns_36 : decode cX2_dealRuns 36 = .ok (.goto (-25), 3) := by decide +kernel
theorem dX2_dealRuns_39 : decode cX2_dealRuns 39 = .ok (.iconst 1, 1) := by decide +kernel
theorem dX2_dealRuns_40 : decode cX2_dealRuns 40 = .ok (.ireturn, 1) := by decide +kernel
theorem dX2_chooseSetting_0 : decode cX2_chooseSetting 0 = .ok (.iload_n 1, 1) := by decide +kernel
theorem dX2_chooseSetting_1 : decode cX2_chooseSetting 1 = .ok (.invokestatic 135, 3) := by decide +kernel
theorem dX2_chooseSetting_4 : decode cX2_chooseSetting 4 = .ok (.ifCond .ne 5, 3) := by decide +kernel
theorem dX2_chooseSetting_7 : decode cX2_chooseSetting 7 = .ok (.iconst 0, 1) := by decide +kernel
theorem dX2_chooseSetting_8 : decode cX2_chooseSetting 8 = .ok (.ireturn, 1) := by decide +kernel
theorem dX2_chooseSetting_9 : decode cX2_chooseSetting 9 = .ok (.aload_n 0, 1) := by decide +kernel
theorem dX2_chooseSetting_10 : decode cX2_chooseSetting 10 = .ok (.iload_n 1, 1) := by decide +kernel
theorem dX2_chooseSetting_11 : decode cX2_chooseSetting 11 = .ok (.putfield 34, 3) := by decide +kernel
theorem dX2_chooseSetting_14 : decode cX2_chooseSetting 14 = .ok (.iconst 1, 1) := by decide +kernel
theorem dX2_chooseSetting_15 : decode cX2_chooseSetting 15 = .ok (.ireturn, 1) := by decide +kernel
theorem dX3_groupsAbove_0 : decode cX3_groupsAbove 0 = .ok (.lload_n 0, 1) := by decide +kernel
theorem dX3_groupsAbove_1 : decode cX3_groupsAbove 1 = .ok (.lstore_n 3, 1) := by decide +kernel
theorem dX3_groupsAbove_2 : decode cX3_groupsAbove 2 = .ok (.iconst 0, 1) := by decide +kernel
theorem dX3_groupsAbove_3 : decode cX3_groupsAbove 3 = .ok (.istore 5, 2) := by decide +kernel
theorem dX3_groupsAbove_5 : decode cX3_groupsAbove 5 = .ok (.iload 5, 2) := by decide +kernel
theorem dX3_groupsAbove_7 : decode cX3_groupsAbove 7 = .ok (.iload_n 2, 1) := by decide +kernel
theorem dX3_groupsAbove_8 : decode cX3_groupsAbove 8 = .ok (.if_icmp .ge 15, 3) := by decide +kernel
theorem dX3_groupsAbove_11 : decode cX3_groupsAbove 11 = .ok (.lload_n 3, 1) := by decide +kernel
theorem dX3_groupsAbove_12 : decode cX3_groupsAbove 12 = .ok (.ldc2_w 9, 3) := by decide +kernel
theorem dX3_groupsAbove_15 : decode cX3_groupsAbove 15 = .ok (.ldiv, 1) := by decide +kernel
theorem dX3_groupsAbove_16 : decode cX3_groupsAbove 16 = .ok (.lstore_n 3, 1) := by decide +kernel
theorem dX3_groupsAbove_17 : decode cX3_groupsAbove 17 = .ok (.iinc 5 1, 3) := by decide +kernel
theorem dX3_groupsAbove_20 : decode cX3_groupsAbove 20 = .ok (.goto (-15), 3) := by decide +kernel
theorem dX3_groupsAbove_23 : decode cX3_groupsAbove 23 = .ok (.lload_n 3, 1) := by decide +kernel
theorem dX3_groupsAbove_24 : decode cX3_groupsAbove 24 = .ok (.lreturn, 1) := by decide +kernel
theorem dX3_succeeds_0 : decode cX3_succeeds 0 = .ok (.aload_n 1, 1) := by decide +kernel
theorem dX3_succeeds_1 : decode cX3_succeeds 1 = .ok (.ifnull 7, 3) := by decide +kernel
theorem dX3_succeeds_4 : decode cX3_succeeds 4 = .ok (.aload_n 2, 1) := by decide +kernel
theorem dX3_succeeds_5 : decode cX3_succeeds 5 = .ok (.ifnonnull 5, 3) := by decide +kernel
theorem dX3_succeeds_8 : decode cX3_succeeds 8 = .ok (.iconst 0, 1) := by decide +kernel
theorem dX3_succeeds_9 : decode cX3_succeeds 9 = .ok (.ireturn, 1) := by decide +kernel
theorem dX3_succeeds_10 : decode cX3_succeeds 10 = .ok (.iload_n 0, 1) := by decide +kernel
theorem dX3_succeeds_11 : decode cX3_succeeds 11 = .ok (.bipush 100, 2) := by decide +kernel
theorem dX3_succeeds_13 : decode cX3_succeeds 13 = .ok (.idiv, 1) := by decide +kernel
theorem dX3_succeeds_14 : decode cX3_succeeds 14 = .ok (.bipush 100, 2) := by decide +kernel
theorem dX3_succeeds_16 : decode cX3_succeeds 16 = .ok (.irem, 1) := by decide +kernel
theorem dX3_succeeds_17 : decode cX3_succeeds 17 = .ok (.istore_n 3, 1) := by decide +kernel
theorem dX3_succeeds_18 : decode cX3_succeeds 18 = .ok (.iload_n 0, 1) := by decide +kernel
theorem dX3_succeeds_19 : decode cX3_succeeds 19 = .ok (.bipush 10, 2) := by decide +kernel
theorem dX3_succeeds_21 : decode cX3_succeeds 21 = .ok (.idiv, 1) := by decide +kernel
theorem dX3_succeeds_22 : decode cX3_succeeds 22 = .ok (.bipush 10, 2) := by decide +kernel
theorem dX3_succeeds_24 : decode cX3_succeeds 24 = .ok (.irem, 1) := by decide +kernel
theorem dX3_succeeds_25 : decode cX3_succeeds 25 = .ok (.istore 4, 2) := by decide +kernel
theorem dX3_succeeds_27 : decode cX3_succeeds 27 = .ok (.iload_n 0, 1) := by decide +kernel
theorem dX3_succeeds_28 : decode cX3_succeeds 28 = .ok (.bipush 10, 2) := by decide +kernel
theorem dX3_succeeds_30 : decode cX3_succeeds 30 = .ok (.irem, 1) := by decide +kernel
theorem dX3_succeeds_31 : decode cX3_succeeds 31 = .ok (.istore 5, 2) := by decide +kernel
theorem dX3_succeeds_33 : decode cX3_succeeds 33 = .ok (.iload_n 0, 1) := by decide +kernel
theorem dX3_succeeds_34 : decode cX3_succeeds 34 = .ok (.sipush 10000, 3) := by decide +kernel
theorem dX3_succeeds_37 : decode cX3_succeeds 37 = .ok (.idiv, 1) := by decide +kernel
theorem dX3_succeeds_38 : decode cX3_succeeds 38 = .ok (.tableswitch 317 1 9 #[50, 86, 116, 140, 164, 188, 209, 234, 272], 50) := by decide +kernel
theorem dX3_succeeds_88 : decode cX3_succeeds 88 = .ok (.iload 4, 2) := by decide +kernel
theorem dX3_succeeds_90 : decode cX3_succeeds 90 = .ok (.ifCond .ne 32, 3) := by decide +kernel
theorem dX3_succeeds_93 : decode cX3_succeeds 93 = .ok (.iload 5, 2) := by decide +kernel
theorem dX3_succeeds_95 : decode cX3_succeeds 95 = .ok (.iconst 1, 1) := by decide +kernel
theorem dX3_succeeds_96 : decode cX3_succeeds 96 = .ok (.if_icmp .gt 26, 3) := by decide +kernel
theorem dX3_succeeds_99 : decode cX3_succeeds 99 = .ok (.aload_n 1, 1) := by decide +kernel
theorem dX3_succeeds_100 : decode cX3_succeeds 100 = .ok (.iload_n 3, 1) := by decide +kernel
theorem dX3_succeeds_101 : decode cX3_succeeds 101 = .ok (.iload 5, 2) := by decide +kernel
theorem dX3_succeeds_103 : decode cX3_succeeds 103 = .ok (.iconst 1, 1) := by decide +kernel
theorem dX3_succeeds_104 : decode cX3_succeeds 104 = .ok (.if_icmp .ne 7, 3) := by decide +kernel
theorem dX3_succeeds_107 : decode cX3_succeeds 107 = .ok (.iconst 1, 1) := by decide +kernel
theorem dX3_succeeds_108 : decode cX3_succeeds 108 = .ok (.goto 4, 3) := by decide +kernel
theorem dX3_succeeds_111 : decode cX3_succeeds 111 = .ok (.iconst 0, 1) := by decide +kernel
theorem dX3_succeeds_112 : decode cX3_succeeds 112 = .ok (.invokevirtual 11, 3) := by decide +kernel
theorem dX3_succeeds_115 : decode cX3_succeeds 115 = .ok (.ifCond .eq 7, 3) := by decide +kernel
theorem dX3_succeeds_118 : decode cX3_succeeds 118 = .ok (.iconst 1, 1) := by decide +kernel
theorem dX3_succeeds_119 : decode cX3_succeeds 119 = .ok (.goto 4, 3) := by decide +kernel
theorem dX3_succeeds_122 : decode cX3_succeeds 122 = .ok (.iconst 0, 1) := by decide +kernel
theorem dX3_succeeds_123 : decode cX3_succeeds 123 = .ok (.ireturn, 1) := by decide +kernel
theorem dX3_succeeds_124 : decode cX3_succeeds 124 = .ok (.iload 4, 2) := by decide +kernel
theorem dX3_succeeds_126 : decode cX3_succeeds 126 = .ok (.ifCond .ne 26, 3) := by decide +kernel
theorem dX3_succeeds_129 : decode cX3_succeeds 129 = .ok (.iload 5, 2) := by decide +kernel
theorem dX3_succeeds_131 : decode cX3_succeeds 131 = .ok (.iconst 2, 1) := by decide +kernel
theorem dX3_succeeds_132 : decode cX3_succeeds 132 = .ok (.if_icmp .gt 20, 3) := by decide +kernel
theorem dX3_succeeds_135 : decode cX3_succeeds 135 = .ok (.aload_n 1, 1) := by decide +kernel
theorem dX3_succeeds_136 : decode cX3_succeeds 136 = .ok (.iload_n 3, 1) := by decide +kernel
theorem dX3_succeeds_137 : decode cX3_succeeds 137 = .ok (.iload 5, 2) := by decide +kernel
theorem dX3_succeeds_139 : decode cX3_succeeds 139 = .ok (.invokestatic 17, 3) := by decide +kernel
theorem dX3_succeeds_142 : decode cX3_succeeds 142 = .ok (.invokevirtual 21, 3) := by decide +kernel
theorem dX3_succeeds_145 : decode cX3_succeeds 145 = .ok (.ifCond .eq 7, 3) := by decide +kernel
theorem dX3_succeeds_148 : decode cX3_succeeds 148 = .ok (.iconst 1, 1) := by decide +kernel
theorem dX3_succeeds_149 : decode cX3_succeeds 149 = .ok (.goto 4, 3) := by decide +kernel
theorem dX3_succeeds_152 : decode cX3_succeeds 152 = .ok (.iconst 0, 1) := by decide +kernel
theorem dX3_succeeds_153 : decode cX3_succeeds 153 = .ok (.ireturn, 1) := by decide +kernel
theorem dX3_succeeds_154 : decode cX3_succeeds 154 = .ok (.iload 4, 2) := by decide +kernel
theorem dX3_succeeds_156 : decode cX3_succeeds 156 = .ok (.ifCond .ne 20, 3) := by decide +kernel
theorem dX3_succeeds_159 : decode cX3_succeeds 159 = .ok (.iload 5, 2) := by decide +kernel
theorem dX3_succeeds_161 : decode cX3_succeeds 161 = .ok (.ifCond .ne 15, 3) := by decide +kernel
theorem dX3_succeeds_164 : decode cX3_succeeds 164 = .ok (.aload_n 1, 1) := by decide +kernel
theorem dX3_succeeds_165 : decode cX3_succeeds 165 = .ok (.iload_n 3, 1) := by decide +kernel
theorem dX3_succeeds_166 : decode cX3_succeeds 166 = .ok (.invokevirtual 25, 3) := by decide +kernel
theorem dX3_succeeds_169 : decode cX3_succeeds 169 = .ok (.ifCond .eq 7, 3) := by decide +kernel
theorem dX3_succeeds_172 : decode cX3_succeeds 172 = .ok (.iconst 1, 1) := by decide +kernel
theorem dX3_succeeds_173 : decode cX3_succeeds 173 = .ok (.goto 4, 3) := by decide +kernel
theorem dX3_succeeds_176 : decode cX3_succeeds 176 = .ok (.iconst 0, 1) := by decide +kernel
theorem dX3_succeeds_177 : decode cX3_succeeds 177 = .ok (.ireturn, 1) := by decide +kernel
theorem dX3_succeeds_178 : decode cX3_succeeds 178 = .ok (.iload_n 3, 1) := by decide +kernel
theorem dX3_succeeds_179 : decode cX3_succeeds 179 = .ok (.ifCond .ne 21, 3) := by decide +kernel
theorem dX3_succeeds_182 : decode cX3_succeeds 182 = .ok (.iload 4, 2) := by decide +kernel
theorem dX3_succeeds_184 : decode cX3_succeeds 184 = .ok (.ifCond .ne 16, 3) := by decide +kernel
theorem dX3_succeeds_187 : decode cX3_succeeds 187 = .ok (.aload_n 1, 1) := by decide +kernel
theorem dX3_succeeds_188 : decode cX3_succeeds 188 = .ok (.iload 5, 2) := by decide +kernel
theorem dX3_succeeds_190 : decode cX3_succeeds 190 = .ok (.invokevirtual 29, 3) := by decide +kernel
theorem dX3_succeeds_193 : decode cX3_succeeds 193 = .ok (.ifCond .eq 7, 3) := by decide +kernel
theorem dX3_succeeds_196 : decode cX3_succeeds 196 = .ok (.iconst 1, 1) := by decide +kernel
theorem dX3_succeeds_197 : decode cX3_succeeds 197 = .ok (.goto 4, 3) := by decide +kernel
theorem dX3_succeeds_200 : decode cX3_succeeds 200 = .ok (.iconst 0, 1) := by decide +kernel
theorem dX3_succeeds_201 : decode cX3_succeeds 201 = .ok (.ireturn, 1) := by decide +kernel
theorem dX3_succeeds_202 : decode cX3_succeeds 202 = .ok (.iload 4, 2) := by decide +kernel
theorem dX3_succeeds_204 : decode cX3_succeeds 204 = .ok (.ifCond .ne 20, 3) := by decide +kernel
theorem dX3_succeeds_207 : decode cX3_succeeds 207 = .ok (.iload 5, 2) := by decide +kernel
theorem dX3_succeeds_209 : decode cX3_succeeds 209 = .ok (.ifCond .ne 15, 3) := by decide +kernel
theorem dX3_succeeds_212 : decode cX3_succeeds 212 = .ok (.aload_n 1, 1) := by decide +kernel
theorem dX3_succeeds_213 : decode cX3_succeeds 213 = .ok (.iload_n 3, 1) := by decide +kernel
theorem dX3_succeeds_214 : decode cX3_succeeds 214 = .ok (.invokevirtual 32, 3) := by decide +kernel
theorem dX3_succeeds_217 : decode cX3_succeeds 217 = .ok (.ifCond .eq 7, 3) := by decide +kernel
theorem dX3_succeeds_220 : decode cX3_succeeds 220 = .ok (.iconst 1, 1) := by decide +kernel
theorem dX3_succeeds_221 : decode cX3_succeeds 221 = .ok (.goto 4, 3) := by decide +kernel
theorem dX3_succeeds_224 : decode cX3_succeeds 224 = .ok (.iconst 0, 1) := by decide +kernel
theorem dX3_succeeds_225 : decode cX3_succeeds 225 = .ok (.ireturn, 1) := by decide +kernel
theorem dX3_succeeds_226 : decode cX3_succeeds 226 = .ok (.iload_n 3, 1) := by decide +kernel
theorem dX3_succeeds_227 : decode cX3_succeeds 227 = .ok (.ifCond .ne 18, 3) := by decide +kernel
theorem dX3_succeeds_230 : decode cX3_succeeds 230 = .ok (.aload_n 1, 1) := by decide +kernel
theorem dX3_succeeds_231 : decode cX3_succeeds 231 = .ok (.invokevirtual 35, 3) := by decide +kernel
theorem dX3_succeeds_234 : decode cX3_succeeds 234 = .ok (.iload_n 0, 1) := by decide +kernel
theorem dX3_succeeds_235 : decode cX3_succeeds 235 = .ok (.bipush 100, 2) := by decide +kernel
theorem dX3_succeeds_237 : decode cX3_succeeds 237 = .ok (.irem, 1) := by decide +kernel
theorem dX3_succeeds_238 : decode cX3_succeeds 238 = .ok (.if_icmp .gt 7, 3) := by decide +kernel
theorem dX3_succeeds_241 : decode cX3_succeeds 241 = .ok (.iconst 1, 1) := by decide +kernel
theorem dX3_succeeds_242 : decode cX3_succeeds 242 = .ok (.goto 4, 3) := by decide +kernel
theorem dX3_succeeds_245 : decode cX3_succeeds 245 = .ok (.iconst 0, 1) := by decide +kernel
theorem dX3_succeeds_246 : decode cX3_succeeds 246 = .ok (.ireturn, 1) := by decide +kernel
theorem dX3_succeeds_247 : decode cX3_succeeds 247 = .ok (.iload_n 3, 1) := by decide +kernel
theorem dX3_succeeds_248 : decode cX3_succeeds 248 = .ok (.ifCond .ne 22, 3) := by decide +kernel
theorem dX3_succeeds_251 : decode cX3_succeeds 251 = .ok (.iload 4, 2) := by decide +kernel
theorem dX3_succeeds_253 : decode cX3_succeeds 253 = .ok (.ifCond .ne 17, 3) := by decide +kernel
theorem dX3_succeeds_256 : decode cX3_succeeds 256 = .ok (.iload 5, 2) := by decide +kernel
theorem dX3_succeeds_258 : decode cX3_succeeds 258 = .ok (.aload_n 1, 1) := by decide +kernel
theorem dX3_succeeds_259 : decode cX3_succeeds 259 = .ok (.aload_n 2, 1) := by decide +kernel
theorem dX3_succeeds_260 : decode cX3_succeeds 260 = .ok (.invokestatic 39, 3) := by decide +kernel
theorem dX3_succeeds_263 : decode cX3_succeeds 263 = .ok (.ifCond .eq 7, 3) := by decide +kernel
theorem dX3_succeeds_266 : decode cX3_succeeds 266 = .ok (.iconst 1, 1) := by decide +kernel
theorem dX3_succeeds_267 : decode cX3_succeeds 267 = .ok (.goto 4, 3) := by decide +kernel
theorem dX3_succeeds_270 : decode cX3_succeeds 270 = .ok (.iconst 0, 1) := by decide +kernel
theorem dX3_succeeds_271 : decode cX3_succeeds 271 = .ok (.ireturn, 1) := by decide +kernel
theorem dX3_succeeds_272 : decode cX3_succeeds 272 = .ok (.iload 4, 2) := by decide +kernel
theorem dX3_succeeds_274 : decode cX3_succeeds 274 = .ok (.ifCond .ne 34, 3) := by decide +kernel
theorem dX3_succeeds_277 : decode cX3_succeeds 277 = .ok (.iload 5, 2) := by decide +kernel
theorem dX3_succeeds_279 : decode cX3_succeeds 279 = .ok (.iconst 2, 1) := by decide +kernel
theorem dX3_succeeds_280 : decode cX3_succeeds 280 = .ok (.if_icmp .gt 28, 3) := by decide +kernel
theorem dX3_succeeds_283 : decode cX3_succeeds 283 = .ok (.aload_n 1, 1) := by decide +kernel
theorem dX3_succeeds_284 : decode cX3_succeeds 284 = .ok (.iload_n 3, 1) := by decide +kernel
theorem dX3_succeeds_285 : decode cX3_succeeds 285 = .ok (.invokevirtual 45, 3) := by decide +kernel
theorem dX3_succeeds_288 : decode cX3_succeeds 288 = .ok (.ifCond .eq 20, 3) := by decide +kernel
theorem dX3_succeeds_291 : decode cX3_succeeds 291 = .ok (.aload_n 1, 1) := by decide +kernel
theorem dX3_succeeds_292 : decode cX3_succeeds 292 = .ok (.iload_n 3, 1) := by decide +kernel
theorem dX3_succeeds_293 : decode cX3_succeeds 293 = .ok (.invokevirtual 48, 3) := by decide +kernel
theorem dX3_succeeds_296 : decode cX3_succeeds 296 = .ok (.iload 5, 2) := by decide +kernel
theorem dX3_succeeds_298 : decode cX3_succeeds 298 = .ok (.invokestatic 17, 3) := by decide +kernel
theorem dX3_succeeds_301 : decode cX3_succeeds 301 = .ok (.if_icmp .ne 7, 3) := by decide +kernel
theorem dX3_succeeds_304 : decode cX3_succeeds 304 = .ok (.iconst 1, 1) := by decide +kernel
theorem dX3_succeeds_305 : decode cX3_succeeds 305 = .ok (.goto 4, 3) := by decide +kernel
theorem dX3_succeeds_308 : decode cX3_succeeds 308 = .ok (.iconst 0, 1) := by decide +kernel
theorem dX3_succeeds_309 : decode cX3_succeeds 309 = .ok (.ireturn, 1) := by decide +kernel
theorem dX3_succeeds_310 : decode cX3_succeeds 310 = .ok (.iload_n 3, 1) := by decide +kernel
theorem dX3_succeeds_311 : decode cX3_succeeds 311 = .ok (.bipush 10, 2) := by decide +kernel
theorem dX3_succeeds_313 : decode cX3_succeeds 313 = .ok (.idiv, 1) := by decide +kernel
theorem dX3_succeeds_314 : decode cX3_succeeds 314 = .ok (.invokestatic 51, 3) := by decide +kernel
theorem dX3_succeeds_317 : decode cX3_succeeds 317 = .ok (.ifCond .eq 36, 3) := by decide +kernel
theorem dX3_succeeds_320 : decode cX3_succeeds 320 = .ok (.iload_n 3, 1) := by decide +kernel
theorem dX3_succeeds_321 : decode cX3_succeeds 321 = .ok (.bipush 10, 2) := by decide +kernel
theorem dX3_succeeds_323 : decode cX3_succeeds 323 = .ok (.irem, 1) := by decide +kernel
theorem dX3_succeeds_324 : decode cX3_succeeds 324 = .ok (.invokestatic 54, 3) := by decide +kernel
theorem dX3_succeeds_327 : decode cX3_succeeds 327 = .ok (.ifCond .eq 26, 3) := by decide +kernel
theorem dX3_succeeds_330 : decode cX3_succeeds 330 = .ok (.aload_n 1, 1) := by decide +kernel
theorem dX3_succeeds_331 : decode cX3_succeeds 331 = .ok (.iload_n 3, 1) := by decide +kernel
theorem dX3_succeeds_332 : decode cX3_succeeds 332 = .ok (.bipush 10, 2) := by decide +kernel
theorem dX3_succeeds_334 : decode cX3_succeeds 334 = .ok (.idiv, 1) := by decide +kernel
theorem dX3_succeeds_335 : decode cX3_succeeds 335 = .ok (.iload_n 3, 1) := by decide +kernel
theorem dX3_succeeds_336 : decode cX3_succeeds 336 = .ok (.bipush 10, 2) := by decide +kernel
theorem dX3_succeeds_338 : decode cX3_succeeds 338 = .ok (.irem, 1) := by decide +kernel
theorem dX3_succeeds_339 : decode cX3_succeeds 339 = .ok (.invokevirtual 57, 3) := by decide +kernel
theorem dX3_succeeds_342 : decode cX3_succeeds 342 = .ok (.iload_n 0, 1) := by decide +kernel
theorem dX3_succeeds_343 : decode cX3_succeeds 343 = .ok (.bipush 100, 2) := by decide +kernel
theorem dX3_succeeds_345 : decode cX3_succeeds 345 = .ok (.irem, 1) := by decide +kernel
theorem dX3_succeeds_346 : decode cX3_succeeds 346 = .ok (.if_icmp .lt 7, 3) := by decide +kernel
theorem dX3_succeeds_349 : decode cX3_succeeds 349 = .ok (.iconst 1, 1) := by decide +kernel
theorem dX3_succeeds_350 : decode cX3_succeeds 350 = .ok (.goto 4, 3) := by decide +kernel
theorem dX3_succeeds_353 : decode cX3_succeeds 353 = .ok (.iconst 0, 1) := by decide +kernel
theorem dX3_succeeds_354 : decode cX3_succeeds 354 = .ok (.ireturn, 1) := by decide +kernel
theorem dX3_succeeds_355 : decode cX3_succeeds 355 = .ok (.iconst 0, 1) := by decide +kernel
theorem dX3_succeeds_356 : decode cX3_succeeds 356 = .ok (.ireturn, 1) := by decide +kernel
theorem dX3_isDividedWithin_0 : decode cX3_isDividedWithin 0 = .ok (.aload_n 2, 1) := by decide +kernel
theorem dX3_isDividedWithin_1 : decode cX3_isDividedWithin 1 = .ok (.aload_n 1, 1) := by decide +kernel
theorem dX3_isDividedWithin_2 : decode cX3_isDividedWithin 2 = .ok (.aload_n 1, 1) := by decide +kernel
theorem dX3_isDividedWithin_3 : decode cX3_isDividedWithin 3 = .ok (.getfield 61, 3) := by decide +kernel
theorem dX3_isDividedWithin_6 : decode cX3_isDividedWithin 6 = .ok (.invokevirtual 65, 3) := by decide +kernel
theorem dX3_isDividedWithin_9 : decode cX3_isDividedWithin 9 = .ok (.aload_n 2, 1) := by decide +kernel
theorem dX3_isDividedWithin_10 : decode cX3_isDividedWithin 10 = .ok (.iload_n 0, 1) := by decide +kernel
theorem dX3_isDividedWithin_11 : decode cX3_isDividedWithin 11 = .ok (.invokevirtual 71, 3) := by decide +kernel
theorem dX3_isDividedWithin_14 : decode cX3_isDividedWithin 14 = .ok (.iconst (-1), 1) := by decide +kernel
theorem dX3_isDividedWithin_15 : decode cX3_isDividedWithin 15 = .ok (.if_icmp .eq 7, 3) := by decide +kernel
theorem dX3_isDividedWithin_18 : decode cX3_isDividedWithin 18 = .ok (.iconst 1, 1) := by decide +kernel
theorem dX3_isDividedWithin_19 : decode cX3_isDividedWithin 19 = .ok (.goto 4, 3) := by decide +kernel
theorem dX3_isDividedWithin_22 : decode cX3_isDividedWithin 22 = .ok (.iconst 0, 1) := by decide +kernel
theorem dX3_isDividedWithin_23 : decode cX3_isDividedWithin 23 = .ok (.ireturn, 1) := by decide +kernel
theorem dX4_play_0 : decode cX4_play 0 = .ok (.aload_n 3, 1) := by decide +kernel
theorem dX4_play_1 : decode cX4_play 1 = .ok (.ifnonnull 4, 3) := by decide +kernel
theorem dX4_play_4 : decode cX4_play 4 = .ok (.return_, 1) := by decide +kernel
theorem dX4_play_5 : decode cX4_play 5 = .ok (.lload_n 0, 1) := by decide +kernel
theorem dX4_play_6 : decode cX4_play 6 = .ok (.lstore 4, 2) := by decide +kernel
theorem dX4_play_8 : decode cX4_play 8 = .ok (.iconst 0, 1) := by decide +kernel
theorem dX4_play_9 : decode cX4_play 9 = .ok (.istore 6, 2) := by decide +kernel
theorem dX4_play_11 : decode cX4_play 11 = .ok (.iload 6, 2) := by decide +kernel
theorem dX4_play_13 : decode cX4_play 13 = .ok (.iload_n 2, 1) := by decide +kernel
theorem dX4_play_14 : decode cX4_play 14 = .ok (.if_icmp .ge 31, 3) := by decide +kernel
theorem dX4_play_17 : decode cX4_play 17 = .ok (.lload 4, 2) := by decide +kernel
theorem dX4_play_19 : decode cX4_play 19 = .ok (.ldc2_w 7, 3) := by decide +kernel
theorem dX4_play_22 : decode cX4_play 22 = .ok (.lmul, 1) := by decide +kernel
theorem dX4_play_23 : decode cX4_play 23 = .ok (.ldc2_w 9, 3) := by decide +kernel
theorem dX4_play_26 : decode cX4_play 26 = .ok (.ladd, 1) := by decide +kernel
theorem dX4_play_27 : decode cX4_play 27 = .ok (.lstore 4, 2) := by decide +kernel
theorem dX4_play_29 : decode cX4_play 29 = .ok (.lload 4, 2) := by decide +kernel
theorem dX4_play_31 : decode cX4_play 31 = .ok (.bipush 33, 2) := by decide +kernel
theorem dX4_play_33 : decode cX4_play 33 = .ok (.lushr, 1) := by decide +kernel
theorem dX4_play_34 : decode cX4_play 34 = .ok (.l2i, 1) := by decide +kernel
theorem dX4_play_35 : decode cX4_play 35 = .ok (.aload_n 3, 1) := by decide +kernel
theorem dX4_play_36 : decode cX4_play 36 = .ok (.invokestatic 11, 3) := by decide +kernel
theorem dX4_play_39 : decode cX4_play 39 = .ok (.iinc 6 1, 3) := by decide +kernel
theorem dX4_play_42 : decode cX4_play 42 = .ok (.goto (-31), 3) := by decide +kernel
theorem dX4_play_45 : decode cX4_play 45 = .ok (.return_, 1) := by decide +kernel
theorem dX4_turn_0 : decode cX4_turn 0 = .ok (.iload_n 0, 1) := by decide +kernel
theorem dX4_turn_1 : decode cX4_turn 1 = .ok (.bipush 16, 2) := by decide +kernel
theorem dX4_turn_3 : decode cX4_turn 3 = .ok (.idiv, 1) := by decide +kernel
theorem dX4_turn_4 : decode cX4_turn 4 = .ok (.istore_n 2, 1) := by decide +kernel
theorem dX4_turn_5 : decode cX4_turn 5 = .ok (.iload_n 0, 1) := by decide +kernel
theorem dX4_turn_6 : decode cX4_turn 6 = .ok (.bipush 16, 2) := by decide +kernel
theorem dX4_turn_8 : decode cX4_turn 8 = .ok (.irem, 1) := by decide +kernel
theorem dX4_turn_9 : decode cX4_turn 9 = .ok (.istore_n 3, 1) := by decide +kernel
theorem dX4_turn_10 : decode cX4_turn 10 = .ok (.iload_n 3, 1) := by decide +kernel
theorem dX4_turn_11 : decode cX4_turn 11 = .ok (.iconst 3, 1) := by decide +kernel
theorem dX4_turn_12 : decode cX4_turn 12 = .ok (.if_icmp .gt 22, 3) := by decide +kernel
theorem dX4_turn_15 : decode cX4_turn 15 = .ok (.aload_n 1, 1) := by decide +kernel
theorem dX4_turn_16 : decode cX4_turn 16 = .ok (.iload_n 2, 1) := by decide +kernel
theorem dX4_turn_17 : decode cX4_turn 17 = .ok (.iconst 4, 1) := by decide +kernel
theorem dX4_turn_18 : decode cX4_turn 18 = .ok (.irem, 1) := by decide +kernel
theorem dX4_turn_19 : decode cX4_turn 19 = .ok (.iconst 1, 1) := by decide +kernel
theorem dX4_turn_20 : decode cX4_turn 20 = .ok (.iload_n 2, 1) := by decide +kernel
theorem dX4_turn_21 : decode cX4_turn 21 = .ok (.iconst 4, 1) := by decide +kernel
theorem dX4_turn_22 : decode cX4_turn 22 = .ok (.idiv, 1) := by decide +kernel
theorem dX4_turn_23 : decode cX4_turn 23 = .ok (.bipush 9, 2) := by decide +kernel
theorem dX4_turn_25 : decode cX4_turn 25 = .ok (.irem, 1) := by decide +kernel
theorem dX4_turn_26 : decode cX4_turn 26 = .ok (.iadd, 1) := by decide +kernel
theorem dX4_turn_27 : decode cX4_turn 27 = .ok (.invokevirtual 17, 3) := by decide +kernel
theorem dX4_turn_30 : decode cX4_turn 30 = .ok (.pop, 1) := by decide +kernel
theorem dX4_turn_31 : decode cX4_turn 31 = .ok (.goto 135, 3) := by decide +kernel
theorem dX4_turn_34 : decode cX4_turn 34 = .ok (.iload_n 3, 1) := by decide +kernel
theorem dX4_turn_35 : decode cX4_turn 35 = .ok (.bipush 7, 2) := by decide +kernel
theorem dX4_turn_37 : decode cX4_turn 37 = .ok (.if_icmp .gt 31, 3) := by decide +kernel
theorem dX4_turn_40 : decode cX4_turn 40 = .ok (.aload_n 1, 1) := by decide +kernel
theorem dX4_turn_41 : decode cX4_turn 41 = .ok (.iconst 1, 1) := by decide +kernel
theorem dX4_turn_42 : decode cX4_turn 42 = .ok (.iload_n 2, 1) := by decide +kernel
theorem dX4_turn_43 : decode cX4_turn 43 = .ok (.bipush 15, 2) := by decide +kernel
theorem dX4_turn_45 : decode cX4_turn 45 = .ok (.irem, 1) := by decide +kernel
theorem dX4_turn_46 : decode cX4_turn 46 = .ok (.iadd, 1) := by decide +kernel
theorem dX4_turn_47 : decode cX4_turn 47 = .ok (.iload_n 2, 1) := by decide +kernel
theorem dX4_turn_48 : decode cX4_turn 48 = .ok (.bipush 16, 2) := by decide +kernel
theorem dX4_turn_50 : decode cX4_turn 50 = .ok (.idiv, 1) := by decide +kernel
theorem dX4_turn_51 : decode cX4_turn 51 = .ok (.iconst 4, 1) := by decide +kernel
theorem dX4_turn_52 : decode cX4_turn 52 = .ok (.irem, 1) := by decide +kernel
theorem dX4_turn_53 : decode cX4_turn 53 = .ok (.ifCond .eq 7, 3) := by decide +kernel
theorem dX4_turn_56 : decode cX4_turn 56 = .ok (.iconst 1, 1) := by decide +kernel
theorem dX4_turn_57 : decode cX4_turn 57 = .ok (.goto 4, 3) := by decide +kernel
theorem dX4_turn_60 : decode cX4_turn 60 = .ok (.iconst 0, 1) := by decide +kernel
theorem dX4_turn_61 : decode cX4_turn 61 = .ok (.invokevirtual 23, 3) := by decide +kernel
theorem dX4_turn_64 : decode cX4_turn 64 = .ok (.pop, 1) := by decide +kernel
theorem dX4_turn_65 : decode cX4_turn 65 = .ok (.goto 101, 3) := by decide +kernel
theorem dX4_turn_68 : decode cX4_turn 68 = .ok (.iload_n 3, 1) := by decide +kernel
theorem dX4_turn_69 : decode cX4_turn 69 = .ok (.bipush 9, 2) := by decide +kernel
theorem dX4_turn_71 : decode cX4_turn 71 = .ok (.if_icmp .gt 23, 3) := by decide +kernel
theorem dX4_turn_74 : decode cX4_turn 74 = .ok (.aload_n 1, 1) := by decide +kernel
theorem dX4_turn_75 : decode cX4_turn 75 = .ok (.iload_n 2, 1) := by decide +kernel
theorem dX4_turn_76 : decode cX4_turn 76 = .ok (.bipush 16, 2) := by decide +kernel
theorem dX4_turn_78 : decode cX4_turn 78 = .ok (.irem, 1) := by decide +kernel
theorem dX4_turn_79 : decode cX4_turn 79 = .ok (.iload_n 2, 1) := by decide +kernel
theorem dX4_turn_80 : decode cX4_turn 80 = .ok (.bipush 16, 2) := by decide +kernel
theorem dX4_turn_82 : decode cX4_turn 82 = .ok (.idiv, 1) := by decide +kernel
theorem dX4_turn_83 : decode cX4_turn 83 = .ok (.iconst 3, 1) := by decide +kernel
theorem dX4_turn_84 : decode cX4_turn 84 = .ok (.irem, 1) := by decide +kernel
theorem dX4_turn_85 : decode cX4_turn 85 = .ok (.iconst 1, 1) := by decide +kernel
theorem dX4_turn_86 : decode cX4_turn 86 = .ok (.isub, 1) := by decide +kernel
theorem dX4_turn_87 : decode cX4_turn 87 = .ok (.invokevirtual 27, 3) := by decide +kernel
theorem dX4_turn_90 : decode cX4_turn 90 = .ok (.pop, 1) := by decide +kernel
theorem dX4_turn_91 : decode cX4_turn 91 = .ok (.goto 75, 3) := by decide +kernel
theorem dX4_turn_94 : decode cX4_turn 94 = .ok (.iload_n 3, 1) := by decide +kernel
theorem dX4_turn_95 : decode cX4_turn 95 = .ok (.bipush 12, 2) := by decide +kernel
theorem dX4_turn_97 : decode cX4_turn 97 = .ok (.if_icmp .gt 15, 3) := by decide +kernel
theorem dX4_turn_100 : decode cX4_turn 100 = .ok (.aload_n 1, 1) := by decide +kernel
theorem dX4_turn_101 : decode cX4_turn 101 = .ok (.iload_n 2, 1) := by decide +kernel
theorem dX4_turn_102 : decode cX4_turn 102 = .ok (.bipush 16, 2) := by decide +kernel
theorem dX4_turn_104 : decode cX4_turn 104 = .ok (.irem, 1) := by decide +kernel
theorem dX4_turn_105 : decode cX4_turn 105 = .ok (.invokevirtual 30, 3) := by decide +kernel
theorem dX4_turn_108 : decode cX4_turn 108 = .ok (.pop, 1) := by decide +kernel
theorem dX4_turn_109 : decode cX4_turn 109 = .ok (.goto 57, 3) := by decide +kernel
theorem dX4_turn_112 : decode cX4_turn 112 = .ok (.iload_n 3, 1) := by decide +kernel
theorem dX4_turn_113 : decode cX4_turn 113 = .ok (.bipush 13, 2) := by decide +kernel
theorem dX4_turn_115 : decode cX4_turn 115 = .ok (.if_icmp .ne 14, 3) := by decide +kernel
theorem dX4_turn_118 : decode cX4_turn 118 = .ok (.aload_n 1, 1) := by decide +kernel
theorem dX4_turn_119 : decode cX4_turn 119 = .ok (.iload_n 2, 1) := by decide +kernel
theorem dX4_turn_120 : decode cX4_turn 120 = .ok (.iconst 2, 1) := by decide +kernel
theorem dX4_turn_121 : decode cX4_turn 121 = .ok (.irem, 1) := by decide +kernel
theorem dX4_turn_122 : decode cX4_turn 122 = .ok (.invokevirtual 34, 3) := by decide +kernel
theorem dX4_turn_125 : decode cX4_turn 125 = .ok (.pop, 1) := by decide +kernel
theorem dX4_turn_126 : decode cX4_turn 126 = .ok (.goto 40, 3) := by decide +kernel
theorem dX4_turn_129 : decode cX4_turn 129 = .ok (.iload_n 3, 1) := by decide +kernel
theorem dX4_turn_130 : decode cX4_turn 130 = .ok (.bipush 14, 2) := by decide +kernel
theorem dX4_turn_132 : decode cX4_turn 132 = .ok (.if_icmp .ne 11, 3) := by decide +kernel
theorem dX4_turn_135 : decode cX4_turn 135 = .ok (.iload_n 2, 1) := by decide +kernel
theorem dX4_turn_136 : decode cX4_turn 136 = .ok (.aload_n 1, 1) := by decide +kernel
theorem dX4_turn_137 : decode cX4_turn 137 = .ok (.invokestatic 37, 3) := by decide +kernel
theorem dX4_turn_140 : decode cX4_turn 140 = .ok (.goto 26, 3) := by decide +kernel
theorem dX4_turn_143 : decode cX4_turn 143 = .ok (.iload_n 2, 1) := by decide +kernel
theorem dX4_turn_144 : decode cX4_turn 144 = .ok (.iconst 2, 1) := by decide +kernel
theorem dX4_turn_145 : decode cX4_turn 145 = .ok (.idiv, 1) := by decide +kernel
theorem dX4_turn_146 : decode cX4_turn 146 = .ok (.iconst 2, 1) := by decide +kernel
theorem dX4_turn_147 : decode cX4_turn 147 = .ok (.irem, 1) := by decide +kernel
theorem dX4_turn_148 : decode cX4_turn 148 = .ok (.ifCond .ne 14, 3) := by decide +kernel
theorem dX4_turn_151 : decode cX4_turn 151 = .ok (.aload_n 1, 1) := by decide +kernel
theorem dX4_turn_152 : decode cX4_turn 152 = .ok (.iload_n 2, 1) := by decide +kernel
theorem dX4_turn_153 : decode cX4_turn 153 = .ok (.iconst 2, 1) := by decide +kernel
theorem dX4_turn_154 : decode cX4_turn 154 = .ok (.irem, 1) := by decide +kernel
theorem dX4_turn_155 : decode cX4_turn 155 = .ok (.invokevirtual 40, 3) := by decide +kernel
theorem dX4_turn_158 : decode cX4_turn 158 = .ok (.pop, 1) := by decide +kernel
theorem dX4_turn_159 : decode cX4_turn 159 = .ok (.goto 7, 3) := by decide +kernel
theorem dX4_turn_162 : decode cX4_turn 162 = .ok (.aload_n 1, 1) := by decide +kernel
theorem dX4_turn_163 : decode cX4_turn 163 = .ok (.invokevirtual 43, 3) := by decide +kernel
theorem dX4_turn_166 : decode cX4_turn 166 = .ok (.return_, 1) := by decide +kernel
theorem dX4_moveJewels_0 : decode cX4_moveJewels 0 = .ok (.iload_n 0, 1) := by decide +kernel
theorem dX4_moveJewels_1 : decode cX4_moveJewels 1 = .ok (.bipush 16, 2) := by decide +kernel
theorem dX4_moveJewels_3 : decode cX4_moveJewels 3 = .ok (.idiv, 1) := by decide +kernel
theorem dX4_moveJewels_4 : decode cX4_moveJewels 4 = .ok (.iconst 4, 1) := by decide +kernel
theorem dX4_moveJewels_5 : decode cX4_moveJewels 5 = .ok (.irem, 1) := by decide +kernel
theorem dX4_moveJewels_6 : decode cX4_moveJewels 6 = .ok (.ifCond .ne 15, 3) := by decide +kernel
theorem dX4_moveJewels_9 : decode cX4_moveJewels 9 = .ok (.aload_n 1, 1) := by decide +kernel
theorem dX4_moveJewels_10 : decode cX4_moveJewels 10 = .ok (.iload_n 0, 1) := by decide +kernel
theorem dX4_moveJewels_11 : decode cX4_moveJewels 11 = .ok (.bipush 16, 2) := by decide +kernel
theorem dX4_moveJewels_13 : decode cX4_moveJewels 13 = .ok (.irem, 1) := by decide +kernel
theorem dX4_moveJewels_14 : decode cX4_moveJewels 14 = .ok (.invokevirtual 46, 3) := by decide +kernel
theorem dX4_moveJewels_17 : decode cX4_moveJewels 17 = .ok (.pop, 1) := by decide +kernel
theorem dX4_moveJewels_18 : decode cX4_moveJewels 18 = .ok (.goto 19, 3) := by decide +kernel
theorem dX4_moveJewels_21 : decode cX4_moveJewels 21 = .ok (.aload_n 1, 1) := by decide +kernel
theorem dX4_moveJewels_22 : decode cX4_moveJewels 22 = .ok (.iload_n 0, 1) := by decide +kernel
theorem dX4_moveJewels_23 : decode cX4_moveJewels 23 = .ok (.bipush 16, 2) := by decide +kernel
theorem dX4_moveJewels_25 : decode cX4_moveJewels 25 = .ok (.irem, 1) := by decide +kernel
theorem dX4_moveJewels_26 : decode cX4_moveJewels 26 = .ok (.iload_n 0, 1) := by decide +kernel
theorem dX4_moveJewels_27 : decode cX4_moveJewels 27 = .ok (.bipush 64, 2) := by decide +kernel
theorem dX4_moveJewels_29 : decode cX4_moveJewels 29 = .ok (.idiv, 1) := by decide +kernel
theorem dX4_moveJewels_30 : decode cX4_moveJewels 30 = .ok (.bipush 16, 2) := by decide +kernel
theorem dX4_moveJewels_32 : decode cX4_moveJewels 32 = .ok (.irem, 1) := by decide +kernel
theorem dX4_moveJewels_33 : decode cX4_moveJewels 33 = .ok (.invokevirtual 49, 3) := by decide +kernel
theorem dX4_moveJewels_36 : decode cX4_moveJewels 36 = .ok (.pop, 1) := by decide +kernel
theorem dX4_moveJewels_37 : decode cX4_moveJewels 37 = .ok (.return_, 1) := by decide +kernel
theorem dX5_init_0 : decode cX5_init 0 = .ok (.aload_n 0, 1) := by decide +kernel
theorem dX5_init_1 : decode cX5_init 1 = .ok (.invokespecial 1, 3) := by decide +kernel
theorem dX5_init_4 : decode cX5_init 4 = .ok (.aload_n 0, 1) := by decide +kernel
theorem dX5_init_5 : decode cX5_init 5 = .ok (.new 7, 3) := by decide +kernel
theorem dX5_init_8 : decode cX5_init 8 = .ok (.dup, 1) := by decide +kernel
theorem dX5_init_9 : decode cX5_init 9 = .ok (.invokespecial 9, 3) := by decide +kernel
theorem dX5_init_12 : decode cX5_init 12 = .ok (.putfield 10, 3) := by decide +kernel
theorem dX5_init_15 : decode cX5_init 15 = .ok (.return_, 1) := by decide +kernel
theorem dX6_init_0 : decode cX6_init 0 = .ok (.aload_n 0, 1) := by decide +kernel
theorem dX6_init_1 : decode cX6_init 1 = .ok (.invokespecial 3, 3) := by decide +kernel
theorem dX6_init_4 : decode cX6_init 4 = .ok (.aload_n 0, 1) := by decide +kernel
theorem dX6_init_5 : decode cX6_init 5 = .ok (.bipush 120, 2) := by decide +kernel
theorem dX6_init_7 : decode cX6_init 7 = .ok (.newarray .char, 2) := by decide +kernel
theorem dX6_init_9 : decode cX6_init 9 = .ok (.putfield 9, 3) := by decide +kernel
theorem dX6_init_12 : decode cX6_init 12 = .ok (.return_, 1) := by decide +kernel
theorem dX6_add_0 : decode cX6_add 0 = .ok (.aload_n 0, 1) := by decide +kernel
theorem dX6_add_1 : decode cX6_add 1 = .ok (.getfield 15, 3) := by decide +kernel
theorem dX6_add_4 : decode cX6_add 4 = .ok (.ifCond .lt 35, 3) := by decide +kernel
theorem dX6_add_7 : decode cX6_add 7 = .ok (.aload_n 0, 1) := by decide +kernel
theorem dX6_add_8 : decode cX6_add 8 = .ok (.getfield 15, 3) := by decide +kernel
theorem dX6_add_11 : decode cX6_add 11 = .ok (.aload_n 0, 1) := by decide +kernel
theorem dX6_add_12 : decode cX6_add 12 = .ok (.getfield 9, 3) := by decide +kernel
theorem dX6_add_15 : decode cX6_add 15 = .ok (.arraylength, 1) := by decide +kernel
theorem dX6_add_16 : decode cX6_add 16 = .ok (.if_icmp .ge 23, 3) := by decide +kernel
theorem dX6_add_19 : decode cX6_add 19 = .ok (.aload_n 0, 1) := by decide +kernel
theorem dX6_add_20 : decode cX6_add 20 = .ok (.getfield 9, 3) := by decide +kernel
theorem dX6_add_23 : decode cX6_add 23 = .ok (.aload_n 0, 1) := by decide +kernel
theorem dX6_add_24 : decode cX6_add 24 = .ok (.getfield 15, 3) := by decide +kernel
theorem dX6_add_27 : decode cX6_add 27 = .ok (.iload_n 1, 1) := by decide +kernel
theorem dX6_add_28 : decode cX6_add 28 = .ok (.castore, 1) := by decide +kernel
theorem dX6_add_29 : decode cX6_add 29 = .ok (.aload_n 0, 1) := by decide +kernel
theorem dX6_add_30 : decode cX6_add 30 = .ok (.dup, 1) := by decide +kernel
theorem dX6_add_31 : decode cX6_add 31 = .ok (.getfield 15, 3) := by decide +kernel
theorem dX6_add_34 : decode cX6_add 34 = .ok (.iconst 1, 1) := by decide +kernel
theorem dX6_add_35 : decode cX6_add 35 = .ok (.iadd, 1) := by decide +kernel
theorem dX6_add_36 : decode cX6_add 36 = .ok (.putfield 15, 3) := by decide +kernel
theorem dX6_add_39 : decode cX6_add 39 = .ok (.return_, 1) := by decide +kernel
theorem dX6_signAt_0 : decode cX6_signAt 0 = .ok (.iload_n 1, 1) := by decide +kernel
theorem dX6_signAt_1 : decode cX6_signAt 1 = .ok (.ifCond .lt 29, 3) := by decide +kernel
theorem dX6_signAt_4 : decode cX6_signAt 4 = .ok (.iload_n 1, 1) := by decide +kernel
theorem dX6_signAt_5 : decode cX6_signAt 5 = .ok (.aload_n 0, 1) := by decide +kernel
theorem dX6_signAt_6 : decode cX6_signAt 6 = .ok (.getfield 15, 3) := by decide +kernel
theorem dX6_signAt_9 : decode cX6_signAt 9 = .ok (.if_icmp .ge 21, 3) := by decide +kernel
theorem dX6_signAt_12 : decode cX6_signAt 12 = .ok (.iload_n 1, 1) := by decide +kernel
theorem dX6_signAt_13 : decode cX6_signAt 13 = .ok (.aload_n 0, 1) := by decide +kernel
theorem dX6_signAt_14 : decode cX6_signAt 14 = .ok (.getfield 9, 3) := by decide +kernel
theorem dX6_signAt_17 : decode cX6_signAt 17 = .ok (.arraylength, 1) := by decide +kernel
theorem dX6_signAt_18 : decode cX6_signAt 18 = .ok (.if_icmp .ge 12, 3) := by decide +kernel
theorem dX6_signAt_21 : decode cX6_signAt 21 = .ok (.aload_n 0, 1) := by decide +kernel
theorem dX6_signAt_22 : decode cX6_signAt 22 = .ok (.getfield 9, 3) := by decide +kernel
theorem dX6_signAt_25 : decode cX6_signAt 25 = .ok (.iload_n 1, 1) := by decide +kernel
theorem dX6_signAt_26 : decode cX6_signAt 26 = .ok (.caload, 1) := by decide +kernel
theorem dX6_signAt_27 : decode cX6_signAt 27 = .ok (.goto 4, 3) := by decide +kernel
theorem dX6_signAt_30 : decode cX6_signAt 30 = .ok (.iconst 0, 1) := by decide +kernel
theorem dX6_signAt_31 : decode cX6_signAt 31 = .ok (.ireturn, 1) := by decide +kernel
theorem dX6_digitAt_0 : decode cX6_digitAt 0 = .ok (.aload_n 0, 1) := by decide +kernel
theorem dX6_digitAt_1 : decode cX6_digitAt 1 = .ok (.iload_n 1, 1) := by decide +kernel
theorem dX6_digitAt_2 : decode cX6_digitAt 2 = .ok (.invokevirtual 19, 3) := by decide +kernel
theorem dX6_digitAt_5 : decode cX6_digitAt 5 = .ok (.bipush 48, 2) := by decide +kernel
theorem dX6_digitAt_7 : decode cX6_digitAt 7 = .ok (.isub, 1) := by decide +kernel
theorem dX6_digitAt_8 : decode cX6_digitAt 8 = .ok (.ireturn, 1) := by decide +kernel
theorem dX6_numberAt_0 : decode cX6_numberAt 0 = .ok (.bipush 10, 2) := by decide +kernel
theorem dX6_numberAt_2 : decode cX6_numberAt 2 = .ok (.aload_n 0, 1) := by decide +kernel
theorem dX6_numberAt_3 : decode cX6_numberAt 3 = .ok (.iload_n 1, 1) := by decide +kernel
theorem dX6_numberAt_4 : decode cX6_numberAt 4 = .ok (.invokevirtual 23, 3) := by decide +kernel
theorem dX6_numberAt_7 : decode cX6_numberAt 7 = .ok (.imul, 1) := by decide +kernel
theorem dX6_numberAt_8 : decode cX6_numberAt 8 = .ok (.aload_n 0, 1) := by decide +kernel
theorem dX6_numberAt_9 : decode cX6_numberAt 9 = .ok (.iload_n 1, 1) := by decide +kernel
theorem dX6_numberAt_10 : decode cX6_numberAt 10 = .ok (.iconst 1, 1) := by decide +kernel
theorem dX6_numberAt_11 : decode cX6_numberAt 11 = .ok (.iadd, 1) := by decide +kernel
theorem dX6_numberAt_12 : decode cX6_numberAt 12 = .ok (.invokevirtual 23, 3) := by decide +kernel
theorem dX6_numberAt_15 : decode cX6_numberAt 15 = .ok (.iadd, 1) := by decide +kernel
theorem dX6_numberAt_16 : decode cX6_numberAt 16 = .ok (.ireturn, 1) := by decide +kernel
theorem dX6_formOf_0 : decode cX6_formOf 0 = .ok (.iload_n 0, 1) := by decide +kernel
theorem dX6_formOf_1 : decode cX6_formOf 1 = .ok (.tableswitch 118 98 116 #[94, 97, 109, 118, 118, 103, 118, 118, 91, 118, 118, 100, 118, 118, 118, 118, 115, 112, 106], 91) := by decide +kernel
theorem dX6_formOf_92 : decode cX6_formOf 92 = .ok (.ldc 27, 2) := by decide +kernel
theorem dX6_formOf_94 : decode cX6_formOf 94 = .ok (.areturn, 1) := by decide +kernel
theorem dX6_formOf_95 : decode cX6_formOf 95 = .ok (.ldc 29, 2) := by decide +kernel
theorem dX6_formOf_97 : decode cX6_formOf 97 = .ok (.areturn, 1) := by decide +kernel
theorem dX6_formOf_98 : decode cX6_formOf 98 = .ok (.ldc 31, 2) := by decide +kernel
theorem dX6_formOf_100 : decode cX6_formOf 100 = .ok (.areturn, 1) := by decide +kernel
theorem dX6_formOf_101 : decode cX6_formOf 101 = .ok (.ldc 31, 2) := by decide +kernel
theorem dX6_formOf_103 : decode cX6_formOf 103 = .ok (.areturn, 1) := by decide +kernel
theorem dX6_formOf_104 : decode cX6_formOf 104 = .ok (.ldc 33, 2) := by decide +kernel
theorem dX6_formOf_106 : decode cX6_formOf 106 = .ok (.areturn, 1) := by decide +kernel
theorem dX6_formOf_107 : decode cX6_formOf 107 = .ok (.ldc 29, 2) := by decide +kernel
theorem dX6_formOf_109 : decode cX6_formOf 109 = .ok (.areturn, 1) := by decide +kernel
theorem dX6_formOf_110 : decode cX6_formOf 110 = .ok (.ldc 35, 2) := by decide +kernel
theorem dX6_formOf_112 : decode cX6_formOf 112 = .ok (.areturn, 1) := by decide +kernel
theorem dX6_formOf_113 : decode cX6_formOf 113 = .ok (.ldc 35, 2) := by decide +kernel
theorem dX6_formOf_115 : decode cX6_formOf 115 = .ok (.areturn, 1) := by decide +kernel
theorem dX6_formOf_116 : decode cX6_formOf 116 = .ok (.ldc 37, 2) := by decide +kernel
theorem dX6_formOf_118 : decode cX6_formOf 118 = .ok (.areturn, 1) := by decide +kernel
theorem dX6_formOf_119 : decode cX6_formOf 119 = .ok (.aconst_null, 1) := by decide +kernel
theorem dX6_formOf_120 : decode cX6_formOf 120 = .ok (.areturn, 1) := by decide +kernel
theorem dX6_fits_0 : decode cX6_fits 0 = .ok (.iload_n 0, 1) := by decide +kernel
theorem dX6_fits_1 : decode cX6_fits 1 = .ok (.tableswitch 194 107 119 #[67, 194, 194, 194, 176, 132, 194, 194, 194, 194, 103, 194, 85], 67) := by decide +kernel
theorem dX6_fits_68 : decode cX6_fits 68 = .ok (.iload_n 1, 1) := by decide +kernel
theorem dX6_fits_69 : decode cX6_fits 69 = .ok (.bipush 97, 2) := by decide +kernel
theorem dX6_fits_71 : decode cX6_fits 71 = .ok (.if_icmp .lt 13, 3) := by decide +kernel
theorem dX6_fits_74 : decode cX6_fits 74 = .ok (.iload_n 1, 1) := by decide +kernel
theorem dX6_fits_75 : decode cX6_fits 75 = .ok (.bipush 100, 2) := by decide +kernel
theorem dX6_fits_77 : decode cX6_fits 77 = .ok (.if_icmp .gt 7, 3) := by decide +kernel
theorem dX6_fits_80 : decode cX6_fits 80 = .ok (.iconst 1, 1) := by decide +kernel
theorem dX6_fits_81 : decode cX6_fits 81 = .ok (.goto 4, 3) := by decide +kernel
theorem dX6_fits_84 : decode cX6_fits 84 = .ok (.iconst 0, 1) := by decide +kernel
theorem dX6_fits_85 : decode cX6_fits 85 = .ok (.ireturn, 1) := by decide +kernel
theorem dX6_fits_86 : decode cX6_fits 86 = .ok (.iload_n 1, 1) := by decide +kernel
theorem dX6_fits_87 : decode cX6_fits 87 = .ok (.bipush 49, 2) := by decide +kernel
theorem dX6_fits_89 : decode cX6_fits 89 = .ok (.if_icmp .lt 13, 3) := by decide +kernel
theorem dX6_fits_92 : decode cX6_fits 92 = .ok (.iload_n 1, 1) := by decide +kernel
theorem dX6_fits_93 : decode cX6_fits 93 = .ok (.bipush 57, 2) := by decide +kernel
theorem dX6_fits_95 : decode cX6_fits 95 = .ok (.if_icmp .gt 7, 3) := by decide +kernel
theorem dX6_fits_98 : decode cX6_fits 98 = .ok (.iconst 1, 1) := by decide +kernel
theorem dX6_fits_99 : decode cX6_fits 99 = .ok (.goto 4, 3) := by decide +kernel
theorem dX6_fits_102 : decode cX6_fits 102 = .ok (.iconst 0, 1) := by decide +kernel
theorem dX6_fits_103 : decode cX6_fits 103 = .ok (.ireturn, 1) := by decide +kernel
theorem dX6_fits_104 : decode cX6_fits 104 = .ok (.iload_n 1, 1) := by decide +kernel
theorem dX6_fits_105 : decode cX6_fits 105 = .ok (.bipush 48, 2) := by decide +kernel
theorem dX6_fits_107 : decode cX6_fits 107 = .ok (.if_icmp .lt 24, 3) := by decide +kernel
theorem dX6_fits_110 : decode cX6_fits 110 = .ok (.iload_n 1, 1) := by decide +kernel
theorem dX6_fits_111 : decode cX6_fits 111 = .ok (.iload_n 2, 1) := by decide +kernel
theorem dX6_fits_112 : decode cX6_fits 112 = .ok (.bipush 49, 2) := by decide +kernel
theorem dX6_fits_114 : decode cX6_fits 114 = .ok (.if_icmp .ne 8, 3) := by decide +kernel
theorem dX6_fits_117 : decode cX6_fits 117 = .ok (.bipush 53, 2) := by decide +kernel
theorem dX6_fits_119 : decode cX6_fits 119 = .ok (.goto 5, 3) := by decide +kernel
theorem dX6_fits_122 : decode cX6_fits 122 = .ok (.bipush 57, 2) := by decide +kernel
theorem dX6_fits_124 : decode cX6_fits 124 = .ok (.if_icmp .gt 7, 3) := by decide +kernel
theorem dX6_fits_127 : decode cX6_fits 127 = .ok (.iconst 1, 1) := by decide +kernel
theorem dX6_fits_128 : decode cX6_fits 128 = .ok (.goto 4, 3) := by decide +kernel
theorem dX6_fits_131 : decode cX6_fits 131 = .ok (.iconst 0, 1) := by decide +kernel
theorem dX6_fits_132 : decode cX6_fits 132 = .ok (.ireturn, 1) := by decide +kernel
theorem dX6_fits_133 : decode cX6_fits 133 = .ok (.iload_n 2, 1) := by decide +kernel
theorem dX6_fits_134 : decode cX6_fits 134 = .ok (.bipush 49, 2) := by decide +kernel
theorem dX6_fits_136 : decode cX6_fits 136 = .ok (.if_icmp .ne 23, 3) := by decide +kernel
theorem dX6_fits_139 : decode cX6_fits 139 = .ok (.iload_n 1, 1) := by decide +kernel
theorem dX6_fits_140 : decode cX6_fits 140 = .ok (.bipush 48, 2) := by decide +kernel
theorem dX6_fits_142 : decode cX6_fits 142 = .ok (.if_icmp .lt 13, 3) := by decide +kernel
theorem dX6_fits_145 : decode cX6_fits 145 = .ok (.iload_n 1, 1) := by decide +kernel
theorem dX6_fits_146 : decode cX6_fits 146 = .ok (.bipush 53, 2) := by decide +kernel
theorem dX6_fits_148 : decode cX6_fits 148 = .ok (.if_icmp .gt 7, 3) := by decide +kernel
theorem dX6_fits_151 : decode cX6_fits 151 = .ok (.iconst 1, 1) := by decide +kernel
theorem dX6_fits_152 : decode cX6_fits 152 = .ok (.goto 24, 3) := by decide +kernel
theorem dX6_fits_155 : decode cX6_fits 155 = .ok (.iconst 0, 1) := by decide +kernel
theorem dX6_fits_156 : decode cX6_fits 156 = .ok (.goto 20, 3) := by decide +kernel
theorem dX6_fits_159 : decode cX6_fits 159 = .ok (.iload_n 1, 1) := by decide +kernel
theorem dX6_fits_160 : decode cX6_fits 160 = .ok (.bipush 49, 2) := by decide +kernel
theorem dX6_fits_162 : decode cX6_fits 162 = .ok (.if_icmp .lt 13, 3) := by decide +kernel
theorem dX6_fits_165 : decode cX6_fits 165 = .ok (.iload_n 1, 1) := by decide +kernel
theorem dX6_fits_166 : decode cX6_fits 166 = .ok (.bipush 57, 2) := by decide +kernel
theorem dX6_fits_168 : decode cX6_fits 168 = .ok (.if_icmp .gt 7, 3) := by decide +kernel
theorem dX6_fits_171 : decode cX6_fits 171 = .ok (.iconst 1, 1) := by decide +kernel
theorem dX6_fits_172 : decode cX6_fits 172 = .ok (.goto 4, 3) := by decide +kernel
theorem dX6_fits_175 : decode cX6_fits 175 = .ok (.iconst 0, 1) := by decide +kernel
theorem dX6_fits_176 : decode cX6_fits 176 = .ok (.ireturn, 1) := by decide +kernel
theorem dX6_fits_177 : decode cX6_fits 177 = .ok (.iload_n 1, 1) := by decide +kernel
theorem dX6_fits_178 : decode cX6_fits 178 = .ok (.bipush 48, 2) := by decide +kernel
theorem dX6_fits_180 : decode cX6_fits 180 = .ok (.if_icmp .lt 13, 3) := by decide +kernel
theorem dX6_fits_183 : decode cX6_fits 183 = .ok (.iload_n 1, 1) := by decide +kernel
theorem dX6_fits_184 : decode cX6_fits 184 = .ok (.bipush 50, 2) := by decide +kernel
theorem dX6_fits_186 : decode cX6_fits 186 = .ok (.if_icmp .gt 7, 3) := by decide +kernel
theorem dX6_fits_189 : decode cX6_fits 189 = .ok (.iconst 1, 1) := by decide +kernel
theorem dX6_fits_190 : decode cX6_fits 190 = .ok (.goto 4, 3) := by decide +kernel
theorem dX6_fits_193 : decode cX6_fits 193 = .ok (.iconst 0, 1) := by decide +kernel
theorem dX6_fits_194 : decode cX6_fits 194 = .ok (.ireturn, 1) := by decide +kernel
theorem dX6_fits_195 : decode cX6_fits 195 = .ok (.iload_n 1, 1) := by decide +kernel
theorem dX6_fits_196 : decode cX6_fits 196 = .ok (.bipush 48, 2) := by decide +kernel
theorem dX6_fits_198 : decode cX6_fits 198 = .ok (.if_icmp .eq 9, 3) := by decide +kernel
theorem dX6_fits_201 : decode cX6_fits 201 = .ok (.iload_n 1, 1) := by decide +kernel
theorem dX6_fits_202 : decode cX6_fits 202 = .ok (.bipush 49, 2) := by decide +kernel
theorem dX6_fits_204 : decode cX6_fits 204 = .ok (.if_icmp .ne 7, 3) := by decide +kernel
theorem dX6_fits_207 : decode cX6_fits 207 = .ok (.iconst 1, 1) := by decide +kernel
theorem dX6_fits_208 : decode cX6_fits 208 = .ok (.goto 4, 3) := by decide +kernel
theorem dX6_fits_211 : decode cX6_fits 211 = .ok (.iconst 0, 1) := by decide +kernel
theorem dX6_fits_212 : decode cX6_fits 212 = .ok (.ireturn, 1) := by decide +kernel
theorem dX6_firstError_0 : decode cX6_firstError 0 = .ok (.aload_n 0, 1) := by decide +kernel
theorem dX6_firstError_1 : decode cX6_firstError 1 = .ok (.iconst 0, 1) := by decide +kernel
theorem dX6_firstError_2 : decode cX6_firstError 2 = .ok (.invokevirtual 19, 3) := by decide +kernel
theorem dX6_firstError_5 : decode cX6_firstError 5 = .ok (.bipush 78, 2) := by decide +kernel
theorem dX6_firstError_7 : decode cX6_firstError 7 = .ok (.if_icmp .eq 5, 3) := by decide +kernel
theorem dX6_firstError_10 : decode cX6_firstError 10 = .ok (.iconst 0, 1) := by decide +kernel
theorem dX6_firstError_11 : decode cX6_firstError 11 = .ok (.ireturn, 1) := by decide +kernel
theorem dX6_firstError_12 : decode cX6_firstError 12 = .ok (.ldc 37, 2) := by decide +kernel
theorem dX6_firstError_14 : decode cX6_firstError 14 = .ok (.astore_n 1, 1) := by decide +kernel
theorem dX6_firstError_15 : decode cX6_firstError 15 = .ok (.iconst 0, 1) := by decide +kernel
theorem dX6_firstError_16 : decode cX6_firstError 16 = .ok (.istore_n 2, 1) := by decide +kernel
theorem dX6_firstError_17 : decode cX6_firstError 17 = .ok (.iconst 1, 1) := by decide +kernel
theorem dX6_firstError_18 : decode cX6_firstError 18 = .ok (.istore_n 3, 1) := by decide +kernel
theorem dX6_firstError_19 : decode cX6_firstError 19 = .ok (.iload_n 3, 1) := by decide +kernel
theorem dX6_firstError_20 : decode cX6_firstError 20 = .ok (.aload_n 0, 1) := by decide +kernel
theorem dX6_firstError_21 : decode cX6_firstError 21 = .ok (.getfield 15, 3) := by decide +kernel
theorem dX6_firstError_24 : decode cX6_firstError 24 = .ok (.if_icmp .ge 62, 3) := by decide +kernel
theorem dX6_firstError_27 : decode cX6_firstError 27 = .ok (.iload_n 2, 1) := by decide +kernel
theorem dX6_firstError_28 : decode cX6_firstError 28 = .ok (.aload_n 1, 1) := by decide +kernel
theorem dX6_firstError_29 : decode cX6_firstError 29 = .ok (.invokevirtual 39, 3) := by decide +kernel
theorem dX6_firstError_32 : decode cX6_firstError 32 = .ok (.if_icmp .lt 20, 3) := by decide +kernel
theorem dX6_firstError_35 : decode cX6_firstError 35 = .ok (.aload_n 0, 1) := by decide +kernel
theorem dX6_firstError_36 : decode cX6_firstError 36 = .ok (.iload_n 3, 1) := by decide +kernel
theorem dX6_firstError_37 : decode cX6_firstError 37 = .ok (.invokevirtual 19, 3) := by decide +kernel
theorem dX6_firstError_40 : decode cX6_firstError 40 = .ok (.invokestatic 44, 3) := by decide +kernel
theorem dX6_firstError_43 : decode cX6_firstError 43 = .ok (.astore_n 1, 1) := by decide +kernel
theorem dX6_firstError_44 : decode cX6_firstError 44 = .ok (.iconst 0, 1) := by decide +kernel
theorem dX6_firstError_45 : decode cX6_firstError 45 = .ok (.istore_n 2, 1) := by decide +kernel
theorem dX6_firstError_46 : decode cX6_firstError 46 = .ok (.aload_n 1, 1) := by decide +kernel
theorem dX6_firstError_47 : decode cX6_firstError 47 = .ok (.ifnonnull 33, 3) := by decide +kernel
theorem dX6_firstError_50 : decode cX6_firstError 50 = .ok (.iload_n 3, 1) := by decide +kernel
theorem dX6_firstError_51 : decode cX6_firstError 51 = .ok (.ireturn, 1) := by decide +kernel
theorem dX6_firstError_52 : decode cX6_firstError 52 = .ok (.aload_n 1, 1) := by decide +kernel
theorem dX6_firstError_53 : decode cX6_firstError 53 = .ok (.iload_n 2, 1) := by decide +kernel
theorem dX6_firstError_54 : decode cX6_firstError 54 = .ok (.invokevirtual 48, 3) := by decide +kernel
theorem dX6_firstError_57 : decode cX6_firstError 57 = .ok (.aload_n 0, 1) := by decide +kernel
theorem dX6_firstError_58 : decode cX6_firstError 58 = .ok (.iload_n 3, 1) := by decide +kernel
theorem dX6_firstError_59 : decode cX6_firstError 59 = .ok (.invokevirtual 19, 3) := by decide +kernel
theorem dX6_firstError_62 : decode cX6_firstError 62 = .ok (.aload_n 0, 1) := by decide +kernel
theorem dX6_firstError_63 : decode cX6_firstError 63 = .ok (.iload_n 3, 1) := by decide +kernel
theorem dX6_firstError_64 : decode cX6_firstError 64 = .ok (.iconst 1, 1) := by decide +kernel
theorem dX6_firstError_65 : decode cX6_firstError 65 = .ok (.isub, 1) := by decide +kernel
theorem dX6_firstError_66 : decode cX6_firstError 66 = .ok (.invokevirtual 19, 3) := by decide +kernel
theorem dX6_firstError_69 : decode cX6_firstError 69 = .ok (.invokestatic 51, 3) := by decide +kernel
theorem dX6_firstError_72 : decode cX6_firstError 72 = .ok (.ifCond .ne 5, 3) := by decide +kernel
theorem dX6_firstError_75 : decode cX6_firstError 75 = .ok (.iload_n 3, 1) := by decide +kernel
theorem dX6_firstError_76 : decode cX6_firstError 76 = .ok (.ireturn, 1) := by decide +kernel
theorem dX6_firstError_77 : decode cX6_firstError 77 = .ok (.iinc 2 1, 3) := by decide +kernel
theorem dX6_firstError_80 : decode cX6_firstError 80 = .ok (.iinc 3 1, 3) := by decide +kernel
theorem dX6_firstError_83 : decode cX6_firstError 83 = .ok (.goto (-64), 3) := by decide +kernel
theorem dX6_firstError_86 : decode cX6_firstError 86 = .ok (.iload_n 2, 1) := by decide +kernel
theorem dX6_firstError_87 : decode cX6_firstError 87 = .ok (.aload_n 1, 1) := by decide +kernel
theorem dX6_firstError_88 : decode cX6_firstError 88 = .ok (.invokevirtual 39, 3) := by decide +kernel
theorem dX6_firstError_91 : decode cX6_firstError 91 = .ok (.if_icmp .ge 10, 3) := by decide +kernel
theorem dX6_firstError_94 : decode cX6_firstError 94 = .ok (.aload_n 0, 1) := by decide +kernel
theorem dX6_firstError_95 : decode cX6_firstError 95 = .ok (.getfield 15, 3) := by decide +kernel
theorem dX6_firstError_98 : decode cX6_firstError 98 = .ok (.goto 4, 3) := by decide +kernel
theorem dX6_firstError_101 : decode cX6_firstError 101 = .ok (.iconst (-1), 1) := by decide +kernel
theorem dX6_firstError_102 : decode cX6_firstError 102 = .ok (.ireturn, 1) := by decide +kernel
theorem dX6_performOn_0 : decode cX6_performOn 0 = .ok (.iconst 0, 1) := by decide +kernel
theorem dX6_performOn_1 : decode cX6_performOn 1 = .ok (.istore_n 2, 1) := by decide +kernel
theorem dX6_performOn_2 : decode cX6_performOn 2 = .ok (.iconst 1, 1) := by decide +kernel
theorem dX6_performOn_3 : decode cX6_performOn 3 = .ok (.istore_n 3, 1) := by decide +kernel
theorem dX6_performOn_4 : decode cX6_performOn 4 = .ok (.iload_n 3, 1) := by decide +kernel
theorem dX6_performOn_5 : decode cX6_performOn 5 = .ok (.aload_n 0, 1) := by decide +kernel
theorem dX6_performOn_6 : decode cX6_performOn 6 = .ok (.getfield 15, 3) := by decide +kernel
theorem dX6_performOn_9 : decode cX6_performOn 9 = .ok (.if_icmp .ge 46, 3) := by decide +kernel
theorem dX6_performOn_12 : decode cX6_performOn 12 = .ok (.aload_n 0, 1) := by decide +kernel
theorem dX6_performOn_13 : decode cX6_performOn 13 = .ok (.iload_n 3, 1) := by decide +kernel
theorem dX6_performOn_14 : decode cX6_performOn 14 = .ok (.invokevirtual 19, 3) := by decide +kernel
theorem dX6_performOn_17 : decode cX6_performOn 17 = .ok (.invokestatic 44, 3) := by decide +kernel
theorem dX6_performOn_20 : decode cX6_performOn 20 = .ok (.astore 4, 2) := by decide +kernel
theorem dX6_performOn_22 : decode cX6_performOn 22 = .ok (.aload 4, 2) := by decide +kernel
theorem dX6_performOn_24 : decode cX6_performOn 24 = .ok (.ifnonnull 5, 3) := by decide +kernel
theorem dX6_performOn_27 : decode cX6_performOn 27 = .ok (.iload_n 2, 1) := by decide +kernel
theorem dX6_performOn_28 : decode cX6_performOn 28 = .ok (.ireturn, 1) := by decide +kernel
theorem dX6_performOn_29 : decode cX6_performOn 29 = .ok (.aload_n 0, 1) := by decide +kernel
theorem dX6_performOn_30 : decode cX6_performOn 30 = .ok (.iload_n 3, 1) := by decide +kernel
theorem dX6_performOn_31 : decode cX6_performOn 31 = .ok (.aload_n 1, 1) := by decide +kernel
theorem dX6_performOn_32 : decode cX6_performOn 32 = .ok (.invokevirtual 55, 3) := by decide +kernel
theorem dX6_performOn_35 : decode cX6_performOn 35 = .ok (.ifCond .ne 6, 3) := by decide +kernel
theorem dX6_performOn_38 : decode cX6_performOn 38 = .ok (.iinc 2 1, 3) := by decide +kernel
theorem dX6_performOn_41 : decode cX6_performOn 41 = .ok (.iload_n 3, 1) := by decide +kernel
theorem dX6_performOn_42 : decode cX6_performOn 42 = .ok (.aload 4, 2) := by decide +kernel
theorem dX6_performOn_44 : decode cX6_performOn 44 = .ok (.invokevirtual 39, 3) := by decide +kernel
theorem dX6_performOn_47 : decode cX6_performOn 47 = .ok (.iadd, 1) := by decide +kernel
theorem dX6_performOn_48 : decode cX6_performOn 48 = .ok (.istore_n 3, 1) := by decide +kernel
theorem dX6_performOn_49 : decode cX6_performOn 49 = .ok (.iinc 3 1, 3) := by decide +kernel
theorem dX6_performOn_52 : decode cX6_performOn 52 = .ok (.goto (-48), 3) := by decide +kernel
theorem dX6_performOn_55 : decode cX6_performOn 55 = .ok (.iload_n 2, 1) := by decide +kernel
theorem dX6_performOn_56 : decode cX6_performOn 56 = .ok (.ireturn, 1) := by decide +kernel
theorem dX6_performs_0 : decode cX6_performs 0 = .ok (.aload_n 2, 1) := by decide +kernel
theorem dX6_performs_1 : decode cX6_performs 1 = .ok (.ifnonnull 5, 3) := by decide +kernel
theorem dX6_performs_4 : decode cX6_performs 4 = .ok (.iconst 0, 1) := by decide +kernel
theorem dX6_performs_5 : decode cX6_performs 5 = .ok (.ireturn, 1) := by decide +kernel
theorem dX6_performs_6 : decode cX6_performs 6 = .ok (.aload_n 0, 1) := by decide +kernel
theorem dX6_performs_7 : decode cX6_performs 7 = .ok (.iload_n 1, 1) := by decide +kernel
theorem dX6_performs_8 : decode cX6_performs 8 = .ok (.invokevirtual 19, 3) := by decide +kernel
theorem dX6_performs_11 : decode cX6_performs 11 = .ok (.tableswitch 207 98 116 #[111, 123, 183, 207, 207, 149, 207, 207, 89, 207, 207, 136, 207, 207, 207, 207, 207, 195, 171], 89) := by decide +kernel
theorem dX6_performs_100 : decode cX6_performs 100 = .ok (.aload_n 2, 1) := by decide +kernel
theorem dX6_performs_101 : decode cX6_performs 101 = .ok (.aload_n 0, 1) := by decide +kernel
theorem dX6_performs_102 : decode cX6_performs 102 = .ok (.iload_n 1, 1) := by decide +kernel
theorem dX6_performs_103 : decode cX6_performs 103 = .ok (.iconst 1, 1) := by decide +kernel
theorem dX6_performs_104 : decode cX6_performs 104 = .ok (.iadd, 1) := by decide +kernel
theorem dX6_performs_105 : decode cX6_performs 105 = .ok (.invokevirtual 19, 3) := by decide +kernel
theorem dX6_performs_108 : decode cX6_performs 108 = .ok (.bipush 97, 2) := by decide +kernel
theorem dX6_performs_110 : decode cX6_performs 110 = .ok (.isub, 1) := by decide +kernel
theorem dX6_performs_111 : decode cX6_performs 111 = .ok (.aload_n 0, 1) := by decide +kernel
theorem dX6_performs_112 : decode cX6_performs 112 = .ok (.iload_n 1, 1) := by decide +kernel
theorem dX6_performs_113 : decode cX6_performs 113 = .ok (.iconst 2, 1) := by decide +kernel
theorem dX6_performs_114 : decode cX6_performs 114 = .ok (.iadd, 1) := by decide +kernel
theorem dX6_performs_115 : decode cX6_performs 115 = .ok (.invokevirtual 23, 3) := by decide +kernel
theorem dX6_performs_118 : decode cX6_performs 118 = .ok (.invokevirtual 59, 3) := by decide +kernel
theorem dX6_performs_121 : decode cX6_performs 121 = .ok (.ireturn, 1) := by decide +kernel
theorem dX6_performs_122 : decode cX6_performs 122 = .ok (.aload_n 2, 1) := by decide +kernel
theorem dX6_performs_123 : decode cX6_performs 123 = .ok (.aload_n 0, 1) := by decide +kernel
theorem dX6_performs_124 : decode cX6_performs 124 = .ok (.iload_n 1, 1) := by decide +kernel
theorem dX6_performs_125 : decode cX6_performs 125 = .ok (.iconst 1, 1) := by decide +kernel
theorem dX6_performs_126 : decode cX6_performs 126 = .ok (.iadd, 1) := by decide +kernel
theorem dX6_performs_127 : decode cX6_performs 127 = .ok (.invokevirtual 65, 3) := by decide +kernel
theorem dX6_performs_130 : decode cX6_performs 130 = .ok (.invokevirtual 68, 3) := by decide +kernel
theorem dX6_performs_133 : decode cX6_performs 133 = .ok (.ireturn, 1) := by decide +kernel
theorem dX6_performs_134 : decode cX6_performs 134 = .ok (.aload_n 2, 1) := by decide +kernel
theorem dX6_performs_135 : decode cX6_performs 135 = .ok (.aload_n 0, 1) := by decide +kernel
theorem dX6_performs_136 : decode cX6_performs 136 = .ok (.iload_n 1, 1) := by decide +kernel
theorem dX6_performs_137 : decode cX6_performs 137 = .ok (.iconst 1, 1) := by decide +kernel
theorem dX6_performs_138 : decode cX6_performs 138 = .ok (.iadd, 1) := by decide +kernel
theorem dX6_performs_139 : decode cX6_performs 139 = .ok (.invokevirtual 65, 3) := by decide +kernel
theorem dX6_performs_142 : decode cX6_performs 142 = .ok (.iconst 1, 1) := by decide +kernel
theorem dX6_performs_143 : decode cX6_performs 143 = .ok (.invokevirtual 72, 3) := by decide +kernel
theorem dX6_performs_146 : decode cX6_performs 146 = .ok (.ireturn, 1) := by decide +kernel
theorem dX6_performs_147 : decode cX6_performs 147 = .ok (.aload_n 2, 1) := by decide +kernel
theorem dX6_performs_148 : decode cX6_performs 148 = .ok (.aload_n 0, 1) := by decide +kernel
theorem dX6_performs_149 : decode cX6_performs 149 = .ok (.iload_n 1, 1) := by decide +kernel
theorem dX6_performs_150 : decode cX6_performs 150 = .ok (.iconst 1, 1) := by decide +kernel
theorem dX6_performs_151 : decode cX6_performs 151 = .ok (.iadd, 1) := by decide +kernel
theorem dX6_performs_152 : decode cX6_performs 152 = .ok (.invokevirtual 65, 3) := by decide +kernel
theorem dX6_performs_155 : decode cX6_performs 155 = .ok (.iconst 0, 1) := by decide +kernel
theorem dX6_performs_156 : decode cX6_performs 156 = .ok (.invokevirtual 72, 3) := by decide +kernel
theorem dX6_performs_159 : decode cX6_performs 159 = .ok (.ireturn, 1) := by decide +kernel
theorem dX6_performs_160 : decode cX6_performs 160 = .ok (.aload_n 2, 1) := by decide +kernel
theorem dX6_performs_161 : decode cX6_performs 161 = .ok (.aload_n 0, 1) := by decide +kernel
theorem dX6_performs_162 : decode cX6_performs 162 = .ok (.iload_n 1, 1) := by decide +kernel
theorem dX6_performs_163 : decode cX6_performs 163 = .ok (.iconst 1, 1) := by decide +kernel
theorem dX6_performs_164 : decode cX6_performs 164 = .ok (.iadd, 1) := by decide +kernel
theorem dX6_performs_165 : decode cX6_performs 165 = .ok (.invokevirtual 65, 3) := by decide +kernel
theorem dX6_performs_168 : decode cX6_performs 168 = .ok (.aload_n 0, 1) := by decide +kernel
theorem dX6_performs_169 : decode cX6_performs 169 = .ok (.iload_n 1, 1) := by decide +kernel
theorem dX6_performs_170 : decode cX6_performs 170 = .ok (.iconst 3, 1) := by decide +kernel
theorem dX6_performs_171 : decode cX6_performs 171 = .ok (.iadd, 1) := by decide +kernel
theorem dX6_performs_172 : decode cX6_performs 172 = .ok (.invokevirtual 23, 3) := by decide +kernel
theorem dX6_performs_175 : decode cX6_performs 175 = .ok (.invokestatic 76, 3) := by decide +kernel
theorem dX6_performs_178 : decode cX6_performs 178 = .ok (.invokevirtual 79, 3) := by decide +kernel
theorem dX6_performs_181 : decode cX6_performs 181 = .ok (.ireturn, 1) := by decide +kernel
theorem dX6_performs_182 : decode cX6_performs 182 = .ok (.aload_n 2, 1) := by decide +kernel
theorem dX6_performs_183 : decode cX6_performs 183 = .ok (.aload_n 0, 1) := by decide +kernel
theorem dX6_performs_184 : decode cX6_performs 184 = .ok (.iload_n 1, 1) := by decide +kernel
theorem dX6_performs_185 : decode cX6_performs 185 = .ok (.iconst 1, 1) := by decide +kernel
theorem dX6_performs_186 : decode cX6_performs 186 = .ok (.iadd, 1) := by decide +kernel
theorem dX6_performs_187 : decode cX6_performs 187 = .ok (.invokevirtual 65, 3) := by decide +kernel
theorem dX6_performs_190 : decode cX6_performs 190 = .ok (.invokevirtual 82, 3) := by decide +kernel
theorem dX6_performs_193 : decode cX6_performs 193 = .ok (.ireturn, 1) := by decide +kernel
theorem dX6_performs_194 : decode cX6_performs 194 = .ok (.aload_n 2, 1) := by decide +kernel
theorem dX6_performs_195 : decode cX6_performs 195 = .ok (.aload_n 0, 1) := by decide +kernel
theorem dX6_performs_196 : decode cX6_performs 196 = .ok (.iload_n 1, 1) := by decide +kernel
theorem dX6_performs_197 : decode cX6_performs 197 = .ok (.iconst 1, 1) := by decide +kernel
theorem dX6_performs_198 : decode cX6_performs 198 = .ok (.iadd, 1) := by decide +kernel
theorem dX6_performs_199 : decode cX6_performs 199 = .ok (.invokevirtual 23, 3) := by decide +kernel
theorem dX6_performs_202 : decode cX6_performs 202 = .ok (.invokevirtual 85, 3) := by decide +kernel
theorem dX6_performs_205 : decode cX6_performs 205 = .ok (.ireturn, 1) := by decide +kernel
theorem dX6_performs_206 : decode cX6_performs 206 = .ok (.aload_n 2, 1) := by decide +kernel
theorem dX6_performs_207 : decode cX6_performs 207 = .ok (.aload_n 0, 1) := by decide +kernel
theorem dX6_performs_208 : decode cX6_performs 208 = .ok (.iload_n 1, 1) := by decide +kernel
theorem dX6_performs_209 : decode cX6_performs 209 = .ok (.iconst 1, 1) := by decide +kernel
theorem dX6_performs_210 : decode cX6_performs 210 = .ok (.iadd, 1) := by decide +kernel
theorem dX6_performs_211 : decode cX6_performs 211 = .ok (.invokevirtual 23, 3) := by decide +kernel
theorem dX6_performs_214 : decode cX6_performs 214 = .ok (.invokevirtual 88, 3) := by decide +kernel
theorem dX6_performs_217 : decode cX6_performs 217 = .ok (.ireturn, 1) := by decide +kernel
theorem dX6_performs_218 : decode cX6_performs 218 = .ok (.aload_n 2, 1) := by decide +kernel
theorem dX6_performs_219 : decode cX6_performs 219 = .ok (.invokevirtual 91, 3) := by decide +kernel
theorem dX6_performs_222 : decode cX6_performs 222 = .ok (.iconst 1, 1) := by decide +kernel
theorem dX6_performs_223 : decode cX6_performs 223 = .ok (.ireturn, 1) := by decide +kernel
theorem dJ6_numberOfTrailingZeros_0f7a4_0 : decode cJ6_numberOfTrailingZeros_0f7a4 0 = .ok (.iload_n 0, 1) := by decide +kernel
theorem dJ6_numberOfTrailingZeros_0f7a4_1 : decode cJ6_numberOfTrailingZeros_0f7a4 1 = .ok (.iconst (-1), 1) := by decide +kernel
theorem dJ6_numberOfTrailingZeros_0f7a4_2 : decode cJ6_numberOfTrailingZeros_0f7a4 2 = .ok (.ixor, 1) := by decide +kernel
theorem dJ6_numberOfTrailingZeros_0f7a4_3 : decode cJ6_numberOfTrailingZeros_0f7a4 3 = .ok (.iload_n 0, 1) := by decide +kernel
theorem dJ6_numberOfTrailingZeros_0f7a4_4 : decode cJ6_numberOfTrailingZeros_0f7a4 4 = .ok (.iconst 1, 1) := by decide +kernel
theorem dJ6_numberOfTrailingZeros_0f7a4_5 : decode cJ6_numberOfTrailingZeros_0f7a4 5 = .ok (.isub, 1) := by decide +kernel
theorem dJ6_numberOfTrailingZeros_0f7a4_6 : decode cJ6_numberOfTrailingZeros_0f7a4 6 = .ok (.iand, 1) := by decide +kernel
theorem dJ6_numberOfTrailingZeros_0f7a4_7 : decode cJ6_numberOfTrailingZeros_0f7a4 7 = .ok (.istore_n 0, 1) := by decide +kernel
theorem dJ6_numberOfTrailingZeros_0f7a4_8 : decode cJ6_numberOfTrailingZeros_0f7a4 8 = .ok (.iload_n 0, 1) := by decide +kernel
theorem dJ6_numberOfTrailingZeros_0f7a4_9 : decode cJ6_numberOfTrailingZeros_0f7a4 9 = .ok (.ifCond .gt 8, 3) := by decide +kernel
theorem dJ6_numberOfTrailingZeros_0f7a4_12 : decode cJ6_numberOfTrailingZeros_0f7a4 12 = .ok (.iload_n 0, 1) := by decide +kernel
theorem dJ6_numberOfTrailingZeros_0f7a4_13 : decode cJ6_numberOfTrailingZeros_0f7a4 13 = .ok (.bipush 32, 2) := by decide +kernel
theorem dJ6_numberOfTrailingZeros_0f7a4_15 : decode cJ6_numberOfTrailingZeros_0f7a4 15 = .ok (.iand, 1) := by decide +kernel
theorem dJ6_numberOfTrailingZeros_0f7a4_16 : decode cJ6_numberOfTrailingZeros_0f7a4 16 = .ok (.ireturn, 1) := by decide +kernel
theorem dJ6_numberOfTrailingZeros_0f7a4_17 : decode cJ6_numberOfTrailingZeros_0f7a4 17 = .ok (.iconst 1, 1) := by decide +kernel
theorem dJ6_numberOfTrailingZeros_0f7a4_18 : decode cJ6_numberOfTrailingZeros_0f7a4 18 = .ok (.istore_n 1, 1) := by decide +kernel
theorem dJ6_numberOfTrailingZeros_0f7a4_19 : decode cJ6_numberOfTrailingZeros_0f7a4 19 = .ok (.iload_n 0, 1) := by decide +kernel
theorem dJ6_numberOfTrailingZeros_0f7a4_20 : decode cJ6_numberOfTrailingZeros_0f7a4 20 = .ok (.ldc_w 264, 3) := by decide +kernel
theorem dJ6_numberOfTrailingZeros_0f7a4_23 : decode cJ6_numberOfTrailingZeros_0f7a4 23 = .ok (.if_icmp .le 11, 3) := by decide +kernel
theorem dJ6_numberOfTrailingZeros_0f7a4_26 : decode cJ6_numberOfTrailingZeros_0f7a4 26 = .ok (.iinc 1 16, 3) := by decide +kernel
theorem dJ6_numberOfTrailingZeros_0f7a4_29 : decode cJ6_numberOfTrailingZeros_0f7a4 29 = .ok (.iload_n 0, 1) := by decide +kernel
theorem dJ6_numberOfTrailingZeros_0f7a4_30 : decode cJ6_numberOfTrailingZeros_0f7a4 30 = .ok (.bipush 16, 2) := by decide +kernel
theorem dJ6_numberOfTrailingZeros_0f7a4_32 : decode cJ6_numberOfTrailingZeros_0f7a4 32 = .ok (.iushr, 1) := by decide +kernel
theorem dJ6_numberOfTrailingZeros_0f7a4_33 : decode cJ6_numberOfTrailingZeros_0f7a4 33 = .ok (.istore_n 0, 1) := by decide +kernel
theorem dJ6_numberOfTrailingZeros_0f7a4_34 : decode cJ6_numberOfTrailingZeros_0f7a4 34 = .ok (.iload_n 0, 1) := by decide +kernel
theorem dJ6_numberOfTrailingZeros_0f7a4_35 : decode cJ6_numberOfTrailingZeros_0f7a4 35 = .ok (.sipush 256, 3) := by decide +kernel
theorem dJ6_numberOfTrailingZeros_0f7a4_38 : decode cJ6_numberOfTrailingZeros_0f7a4 38 = .ok (.if_icmp .le 11, 3) := by decide +kernel
theorem dJ6_numberOfTrailingZeros_0f7a4_41 : decode cJ6_numberOfTrailingZeros_0f7a4 41 = .ok (.iinc 1 8, 3) := by decide +kernel
theorem dJ6_numberOfTrailingZeros_0f7a4_44 : decode cJ6_numberOfTrailingZeros_0f7a4 44 = .ok (.iload_n 0, 1) := by decide +kernel
theorem dJ6_numberOfTrailingZeros_0f7a4_45 : decode cJ6_numberOfTrailingZeros_0f7a4 45 = .ok (.bipush 8, 2) := by decide +kernel
theorem dJ6_numberOfTrailingZeros_0f7a4_47 : decode cJ6_numberOfTrailingZeros_0f7a4 47 = .ok (.iushr, 1) := by decide +kernel
theorem dJ6_numberOfTrailingZeros_0f7a4_48 : decode cJ6_numberOfTrailingZeros_0f7a4 48 = .ok (.istore_n 0, 1) := by decide +kernel
theorem dJ6_numberOfTrailingZeros_0f7a4_49 : decode cJ6_numberOfTrailingZeros_0f7a4 49 = .ok (.iload_n 0, 1) := by decide +kernel
theorem dJ6_numberOfTrailingZeros_0f7a4_50 : decode cJ6_numberOfTrailingZeros_0f7a4 50 = .ok (.bipush 16, 2) := by decide +kernel
theorem dJ6_numberOfTrailingZeros_0f7a4_52 : decode cJ6_numberOfTrailingZeros_0f7a4 52 = .ok (.if_icmp .le 10, 3) := by decide +kernel
theorem dJ6_numberOfTrailingZeros_0f7a4_55 : decode cJ6_numberOfTrailingZeros_0f7a4 55 = .ok (.iinc 1 4, 3) := by decide +kernel
theorem dJ6_numberOfTrailingZeros_0f7a4_58 : decode cJ6_numberOfTrailingZeros_0f7a4 58 = .ok (.iload_n 0, 1) := by decide +kernel
theorem dJ6_numberOfTrailingZeros_0f7a4_59 : decode cJ6_numberOfTrailingZeros_0f7a4 59 = .ok (.iconst 4, 1) := by decide +kernel
theorem dJ6_numberOfTrailingZeros_0f7a4_60 : decode cJ6_numberOfTrailingZeros_0f7a4 60 = .ok (.iushr, 1) := by decide +kernel
theorem dJ6_numberOfTrailingZeros_0f7a4_61 : decode cJ6_numberOfTrailingZeros_0f7a4 61 = .ok (.istore_n 0, 1) := by decide +kernel
theorem dJ6_numberOfTrailingZeros_0f7a4_62 : decode cJ6_numberOfTrailingZeros_0f7a4 62 = .ok (.iload_n 0, 1) := by decide +kernel
theorem dJ6_numberOfTrailingZeros_0f7a4_63 : decode cJ6_numberOfTrailingZeros_0f7a4 63 = .ok (.iconst 4, 1) := by decide +kernel
theorem dJ6_numberOfTrailingZeros_0f7a4_64 : decode cJ6_numberOfTrailingZeros_0f7a4 64 = .ok (.if_icmp .le 10, 3) := by decide +kernel
theorem dJ6_numberOfTrailingZeros_0f7a4_67 : decode cJ6_numberOfTrailingZeros_0f7a4 67 = .ok (.iinc 1 2, 3) := by decide +kernel
theorem dJ6_numberOfTrailingZeros_0f7a4_70 : decode cJ6_numberOfTrailingZeros_0f7a4 70 = .ok (.iload_n 0, 1) := by decide +kernel
theorem dJ6_numberOfTrailingZeros_0f7a4_71 : decode cJ6_numberOfTrailingZeros_0f7a4 71 = .ok (.iconst 2, 1) := by decide +kernel
theorem dJ6_numberOfTrailingZeros_0f7a4_72 : decode cJ6_numberOfTrailingZeros_0f7a4 72 = .ok (.iushr, 1) := by decide +kernel
theorem dJ6_numberOfTrailingZeros_0f7a4_73 : decode cJ6_numberOfTrailingZeros_0f7a4 73 = .ok (.istore_n 0, 1) := by decide +kernel
theorem dJ6_numberOfTrailingZeros_0f7a4_74 : decode cJ6_numberOfTrailingZeros_0f7a4 74 = .ok (.iload_n 1, 1) := by decide +kernel
theorem dJ6_numberOfTrailingZeros_0f7a4_75 : decode cJ6_numberOfTrailingZeros_0f7a4 75 = .ok (.iload_n 0, 1) := by decide +kernel
theorem dJ6_numberOfTrailingZeros_0f7a4_76 : decode cJ6_numberOfTrailingZeros_0f7a4 76 = .ok (.iconst 1, 1) := by decide +kernel
theorem dJ6_numberOfTrailingZeros_0f7a4_77 : decode cJ6_numberOfTrailingZeros_0f7a4 77 = .ok (.iushr, 1) := by decide +kernel
theorem dJ6_numberOfTrailingZeros_0f7a4_78 : decode cJ6_numberOfTrailingZeros_0f7a4 78 = .ok (.iadd, 1) := by decide +kernel
theorem dJ6_numberOfTrailingZeros_0f7a4_79 : decode cJ6_numberOfTrailingZeros_0f7a4 79 = .ok (.ireturn, 1) := by decide +kernel
theorem dJ6_bitCount_0f7a4_0 : decode cJ6_bitCount_0f7a4 0 = .ok (.iload_n 0, 1) := by decide +kernel
theorem dJ6_bitCount_0f7a4_1 : decode cJ6_bitCount_0f7a4 1 = .ok (.iload_n 0, 1) := by decide +kernel
theorem dJ6_bitCount_0f7a4_2 : decode cJ6_bitCount_0f7a4 2 = .ok (.iconst 1, 1) := by decide +kernel
theorem dJ6_bitCount_0f7a4_3 : decode cJ6_bitCount_0f7a4 3 = .ok (.iushr, 1) := by decide +kernel
theorem dJ6_bitCount_0f7a4_4 : decode cJ6_bitCount_0f7a4 4 = .ok (.ldc_w 265, 3) := by decide +kernel
theorem dJ6_bitCount_0f7a4_7 : decode cJ6_bitCount_0f7a4 7 = .ok (.iand, 1) := by decide +kernel
theorem dJ6_bitCount_0f7a4_8 : decode cJ6_bitCount_0f7a4 8 = .ok (.isub, 1) := by decide +kernel
theorem dJ6_bitCount_0f7a4_9 : decode cJ6_bitCount_0f7a4 9 = .ok (.istore_n 0, 1) := by decide +kernel
theorem dJ6_bitCount_0f7a4_10 : decode cJ6_bitCount_0f7a4 10 = .ok (.iload_n 0, 1) := by decide +kernel
theorem dJ6_bitCount_0f7a4_11 : decode cJ6_bitCount_0f7a4 11 = .ok (.ldc_w 266, 3) := by decide +kernel
theorem dJ6_bitCount_0f7a4_14 : decode cJ6_bitCount_0f7a4 14 = .ok (.iand, 1) := by decide +kernel
theorem dJ6_bitCount_0f7a4_15 : decode cJ6_bitCount_0f7a4 15 = .ok (.iload_n 0, 1) := by decide +kernel
theorem dJ6_bitCount_0f7a4_16 : decode cJ6_bitCount_0f7a4 16 = .ok (.iconst 2, 1) := by decide +kernel
theorem dJ6_bitCount_0f7a4_17 : decode cJ6_bitCount_0f7a4 17 = .ok (.iushr, 1) := by decide +kernel
theorem dJ6_bitCount_0f7a4_18 : decode cJ6_bitCount_0f7a4 18 = .ok (.ldc_w 266, 3) := by decide +kernel
theorem dJ6_bitCount_0f7a4_21 : decode cJ6_bitCount_0f7a4 21 = .ok (.iand, 1) := by decide +kernel
theorem dJ6_bitCount_0f7a4_22 : decode cJ6_bitCount_0f7a4 22 = .ok (.iadd, 1) := by decide +kernel
theorem dJ6_bitCount_0f7a4_23 : decode cJ6_bitCount_0f7a4 23 = .ok (.istore_n 0, 1) := by decide +kernel
theorem dJ6_bitCount_0f7a4_24 : decode cJ6_bitCount_0f7a4 24 = .ok (.iload_n 0, 1) := by decide +kernel
theorem dJ6_bitCount_0f7a4_25 : decode cJ6_bitCount_0f7a4 25 = .ok (.iload_n 0, 1) := by decide +kernel
theorem dJ6_bitCount_0f7a4_26 : decode cJ6_bitCount_0f7a4 26 = .ok (.iconst 4, 1) := by decide +kernel
theorem dJ6_bitCount_0f7a4_27 : decode cJ6_bitCount_0f7a4 27 = .ok (.iushr, 1) := by decide +kernel
theorem dJ6_bitCount_0f7a4_28 : decode cJ6_bitCount_0f7a4 28 = .ok (.iadd, 1) := by decide +kernel
theorem dJ6_bitCount_0f7a4_29 : decode cJ6_bitCount_0f7a4 29 = .ok (.ldc_w 267, 3) := by decide +kernel
theorem dJ6_bitCount_0f7a4_32 : decode cJ6_bitCount_0f7a4 32 = .ok (.iand, 1) := by decide +kernel
theorem dJ6_bitCount_0f7a4_33 : decode cJ6_bitCount_0f7a4 33 = .ok (.istore_n 0, 1) := by decide +kernel
theorem dJ6_bitCount_0f7a4_34 : decode cJ6_bitCount_0f7a4 34 = .ok (.iload_n 0, 1) := by decide +kernel
theorem dJ6_bitCount_0f7a4_35 : decode cJ6_bitCount_0f7a4 35 = .ok (.iload_n 0, 1) := by decide +kernel
theorem dJ6_bitCount_0f7a4_36 : decode cJ6_bitCount_0f7a4 36 = .ok (.bipush 8, 2) := by decide +kernel
theorem dJ6_bitCount_0f7a4_38 : decode cJ6_bitCount_0f7a4 38 = .ok (.iushr, 1) := by decide +kernel
theorem dJ6_bitCount_0f7a4_39 : decode cJ6_bitCount_0f7a4 39 = .ok (.iadd, 1) := by decide +kernel
theorem dJ6_bitCount_0f7a4_40 : decode cJ6_bitCount_0f7a4 40 = .ok (.istore_n 0, 1) := by decide +kernel
theorem dJ6_bitCount_0f7a4_41 : decode cJ6_bitCount_0f7a4 41 = .ok (.iload_n 0, 1) := by decide +kernel
theorem dJ6_bitCount_0f7a4_42 : decode cJ6_bitCount_0f7a4 42 = .ok (.iload_n 0, 1) := by decide +kernel
theorem dJ6_bitCount_0f7a4_43 : decode cJ6_bitCount_0f7a4 43 = .ok (.bipush 16, 2) := by decide +kernel
theorem dJ6_bitCount_0f7a4_45 : decode cJ6_bitCount_0f7a4 45 = .ok (.iushr, 1) := by decide +kernel
theorem dJ6_bitCount_0f7a4_46 : decode cJ6_bitCount_0f7a4 46 = .ok (.iadd, 1) := by decide +kernel
theorem dJ6_bitCount_0f7a4_47 : decode cJ6_bitCount_0f7a4 47 = .ok (.istore_n 0, 1) := by decide +kernel
theorem dJ6_bitCount_0f7a4_48 : decode cJ6_bitCount_0f7a4 48 = .ok (.iload_n 0, 1) := by decide +kernel
theorem dJ6_bitCount_0f7a4_49 : decode cJ6_bitCount_0f7a4 49 = .ok (.bipush 63, 2) := by decide +kernel
theorem dJ6_bitCount_0f7a4_51 : decode cJ6_bitCount_0f7a4 51 = .ok (.iand, 1) := by decide +kernel
theorem dJ6_bitCount_0f7a4_52 : decode cJ6_bitCount_0f7a4 52 = .ok (.ireturn, 1) := by decide +kernel
theorem dJ0_length_8abf5_0 : decode cJ0_length_8abf5 0 = .ok (.aload_n 0, 1) := by decide +kernel
theorem dJ0_length_8abf5_1 : decode cJ0_length_8abf5 1 = .ok (.getfield 9, 3) := by decide +kernel
theorem dJ0_length_8abf5_4 : decode cJ0_length_8abf5 4 = .ok (.arraylength, 1) := by decide +kernel
theorem dJ0_length_8abf5_5 : decode cJ0_length_8abf5 5 = .ok (.aload_n 0, 1) := by decide +kernel
theorem dJ0_length_8abf5_6 : decode cJ0_length_8abf5 6 = .ok (.invokevirtual 335, 3) := by decide +kernel
theorem dJ0_length_8abf5_9 : decode cJ0_length_8abf5 9 = .ok (.ishr, 1) := by decide +kernel
theorem dJ0_length_8abf5_10 : decode cJ0_length_8abf5 10 = .ok (.ireturn, 1) := by decide +kernel
theorem dJ0_charAt_5068e_0 : decode cJ0_charAt_5068e 0 = .ok (.aload_n 0, 1) := by decide +kernel
theorem dJ0_charAt_5068e_1 : decode cJ0_charAt_5068e 1 = .ok (.invokevirtual 492, 3) := by decide +kernel
theorem dJ0_charAt_5068e_4 : decode cJ0_charAt_5068e 4 = .ok (.ifCond .eq 12, 3) := by decide +kernel
theorem dJ0_charAt_5068e_7 : decode cJ0_charAt_5068e 7 = .ok (.aload_n 0, 1) := by decide +kernel
theorem dJ0_charAt_5068e_8 : decode cJ0_charAt_5068e 8 = .ok (.getfield 9, 3) := by decide +kernel
theorem dJ0_charAt_5068e_11 : decode cJ0_charAt_5068e 11 = .ok (.iload_n 1, 1) := by decide +kernel
theorem dJ0_charAt_5068e_12 : decode cJ0_charAt_5068e 12 = .ok (.invokestatic 495, 3) := by decide +kernel
theorem dJ0_charAt_5068e_15 : decode cJ0_charAt_5068e 15 = .ok (.ireturn, 1) := by decide +kernel
theorem dJ0_charAt_5068e_16 : decode cJ0_charAt_5068e 16 = .ok (.aload_n 0, 1) := by decide +kernel
theorem dJ0_charAt_5068e_17 : decode cJ0_charAt_5068e 17 = .ok (.getfield 9, 3) := by decide +kernel
theorem dJ0_charAt_5068e_20 : decode cJ0_charAt_5068e 20 = .ok (.iload_n 1, 1) := by decide +kernel
theorem dJ0_charAt_5068e_21 : decode cJ0_charAt_5068e 21 = .ok (.invokestatic 498, 3) := by decide +kernel
theorem dJ0_charAt_5068e_24 : decode cJ0_charAt_5068e 24 = .ok (.ireturn, 1) := by decide +kernel
theorem dJ0_coder_7d493_0 : decode cJ0_coder_7d493 0 = .ok (.getstatic 38, 3) := by decide +kernel
theorem dJ0_coder_7d493_3 : decode cJ0_coder_7d493 3 = .ok (.ifCond .eq 10, 3) := by decide +kernel
theorem dJ0_coder_7d493_6 : decode cJ0_coder_7d493 6 = .ok (.aload_n 0, 1) := by decide +kernel
theorem dJ0_coder_7d493_7 : decode cJ0_coder_7d493 7 = .ok (.getfield 15, 3) := by decide +kernel
theorem dJ0_coder_7d493_10 : decode cJ0_coder_7d493 10 = .ok (.goto 4, 3) := by decide +kernel
theorem dJ0_coder_7d493_13 : decode cJ0_coder_7d493 13 = .ok (.iconst 1, 1) := by decide +kernel
theorem dJ0_coder_7d493_14 : decode cJ0_coder_7d493 14 = .ok (.ireturn, 1) := by decide +kernel
theorem dJ0_isLatin1_aae02_0 : decode cJ0_isLatin1_aae02 0 = .ok (.getstatic 38, 3) := by decide +kernel
theorem dJ0_isLatin1_aae02_3 : decode cJ0_isLatin1_aae02 3 = .ok (.ifCond .eq 14, 3) := by decide +kernel
theorem dJ0_isLatin1_aae02_6 : decode cJ0_isLatin1_aae02 6 = .ok (.aload_n 0, 1) := by decide +kernel
theorem dJ0_isLatin1_aae02_7 : decode cJ0_isLatin1_aae02 7 = .ok (.getfield 15, 3) := by decide +kernel
theorem dJ0_isLatin1_aae02_10 : decode cJ0_isLatin1_aae02 10 = .ok (.ifCond .ne 7, 3) := by decide +kernel
theorem dJ0_isLatin1_aae02_13 : decode cJ0_isLatin1_aae02 13 = .ok (.iconst 1, 1) := by decide +kernel
theorem dJ0_isLatin1_aae02_14 : decode cJ0_isLatin1_aae02 14 = .ok (.goto 4, 3) := by decide +kernel
theorem dJ0_isLatin1_aae02_17 : decode cJ0_isLatin1_aae02 17 = .ok (.iconst 0, 1) := by decide +kernel
theorem dJ0_isLatin1_aae02_18 : decode cJ0_isLatin1_aae02 18 = .ok (.ireturn, 1) := by decide +kernel
theorem dJ0_checkIndex_df160_0 : decode cJ0_checkIndex_df160 0 = .ok (.iload_n 0, 1) := by decide +kernel
theorem dJ0_checkIndex_df160_1 : decode cJ0_checkIndex_df160 1 = .ok (.iload_n 1, 1) := by decide +kernel
theorem dJ0_checkIndex_df160_2 : decode cJ0_checkIndex_df160 2 = .ok (.getstatic 1053, 3) := by decide +kernel
theorem dJ0_checkIndex_df160_5 : decode cJ0_checkIndex_df160 5 = .ok (.invokestatic 1059, 3) := by decide +kernel
theorem dJ0_checkIndex_df160_8 : decode cJ0_checkIndex_df160 8 = .ok (.pop, 1) := by decide +kernel
theorem dJ0_checkIndex_df160_9 : decode cJ0_checkIndex_df160 9 = .ok (.return_, 1) := by decide +kernel
theorem dJ1_charAt_3b067_0 : decode cJ1_charAt_3b067 0 = .ok (.iload_n 1, 1) := by decide +kernel
theorem dJ1_charAt_3b067_1 : decode cJ1_charAt_3b067 1 = .ok (.aload_n 0, 1) := by decide +kernel
theorem dJ1_charAt_3b067_2 : decode cJ1_charAt_3b067 2 = .ok (.arraylength, 1) := by decide +kernel
theorem dJ1_charAt_3b067_3 : decode cJ1_charAt_3b067 3 = .ok (.invokestatic 9, 3) := by decide +kernel
theorem dJ1_charAt_3b067_6 : decode cJ1_charAt_3b067 6 = .ok (.aload_n 0, 1) := by decide +kernel
theorem dJ1_charAt_3b067_7 : decode cJ1_charAt_3b067 7 = .ok (.iload_n 1, 1) := by decide +kernel
theorem dJ1_charAt_3b067_8 : decode cJ1_charAt_3b067 8 = .ok (.baload, 1) := by decide +kernel
theorem dJ1_charAt_3b067_9 : decode cJ1_charAt_3b067 9 = .ok (.sipush 255, 3) := by decide +kernel
theorem dJ1_charAt_3b067_12 : decode cJ1_charAt_3b067 12 = .ok (.iand, 1) := by decide +kernel
theorem dJ1_charAt_3b067_13 : decode cJ1_charAt_3b067 13 = .ok (.i2c, 1) := by decide +kernel
theorem dJ1_charAt_3b067_14 : decode cJ1_charAt_3b067 14 = .ok (.ireturn, 1) := by decide +kernel
theorem dJ2_getChar_3b067_0 : decode cJ2_getChar_3b067 0 = .ok (.getstatic 44, 3) := by decide +kernel
theorem dJ2_getChar_3b067_3 : decode cJ2_getChar_3b067 3 = .ok (.ifCond .ne 25, 3) := by decide +kernel
theorem dJ2_getChar_3b067_6 : decode cJ2_getChar_3b067 6 = .ok (.iload_n 1, 1) := by decide +kernel
theorem dJ2_getChar_3b067_7 : decode cJ2_getChar_3b067 7 = .ok (.ifCond .lt 11, 3) := by decide +kernel
theorem dJ2_getChar_3b067_10 : decode cJ2_getChar_3b067 10 = .ok (.iload_n 1, 1) := by decide +kernel
theorem dJ2_getChar_3b067_11 : decode cJ2_getChar_3b067 11 = .ok (.aload_n 0, 1) := by decide +kernel
theorem dJ2_getChar_3b067_12 : decode cJ2_getChar_3b067 12 = .ok (.invokestatic 48, 3) := by decide +kernel
theorem dJ2_getChar_3b067_15 : decode cJ2_getChar_3b067 15 = .ok (.if_icmp .lt 13, 3) := by decide +kernel
theorem dJ2_getChar_3b067_18 : decode cJ2_getChar_3b067 18 = .ok (.new 52, 3) := by decide +kernel
theorem dJ2_getChar_3b067_21 : decode cJ2_getChar_3b067 21 = .ok (.dup, 1) := by decide +kernel
theorem dJ2_getChar_3b067_22 : decode cJ2_getChar_3b067 22 = .ok (.ldc 54, 2) := by decide +kernel
theorem dJ2_getChar_3b067_24 : decode cJ2_getChar_3b067 24 = .ok (.invokespecial 56, 3) := by decide +kernel
theorem dJ2_getChar_3b067_27 : decode cJ2_getChar_3b067 27 = .ok (.athrow, 1) := by decide +kernel
theorem dJ2_getChar_3b067_28 : decode cJ2_getChar_3b067 28 = .ok (.iload_n 1, 1) := by decide +kernel
theorem dJ2_getChar_3b067_29 : decode cJ2_getChar_3b067 29 = .ok (.iconst 1, 1) := by decide +kernel
theorem dJ2_getChar_3b067_30 : decode cJ2_getChar_3b067 30 = .ok (.ishl, 1) := by decide +kernel
theorem dJ2_getChar_3b067_31 : decode cJ2_getChar_3b067 31 = .ok (.istore_n 1, 1) := by decide +kernel
theorem dJ2_getChar_3b067_32 : decode cJ2_getChar_3b067 32 = .ok (.aload_n 0, 1) := by decide +kernel
theorem dJ2_getChar_3b067_33 : decode cJ2_getChar_3b067 33 = .ok (.iload_n 1, 1) := by decide +kernel
theorem dJ2_getChar_3b067_34 : decode cJ2_getChar_3b067 34 = .ok (.iinc 1 1, 3) := by decide +kernel
theorem dJ2_getChar_3b067_37 : decode cJ2_getChar_3b067 37 = .ok (.baload, 1) := by decide +kernel
theorem dJ2_getChar_3b067_38 : decode cJ2_getChar_3b067 38 = .ok (.sipush 255, 3) := by decide +kernel
theorem dJ2_getChar_3b067_41 : decode cJ2_getChar_3b067 41 = .ok (.iand, 1) := by decide +kernel
theorem dJ2_getChar_3b067_42 : decode cJ2_getChar_3b067 42 = .ok (.getstatic 59, 3) := by decide +kernel
theorem dJ2_getChar_3b067_45 : decode cJ2_getChar_3b067 45 = .ok (.ishl, 1) := by decide +kernel
theorem dJ2_getChar_3b067_46 : decode cJ2_getChar_3b067 46 = .ok (.aload_n 0, 1) := by decide +kernel
theorem dJ2_getChar_3b067_47 : decode cJ2_getChar_3b067 47 = .ok (.iload_n 1, 1) := by decide +kernel
theorem dJ2_getChar_3b067_48 : decode cJ2_getChar_3b067 48 = .ok (.baload, 1) := by decide +kernel
theorem dJ2_getChar_3b067_49 : decode cJ2_getChar_3b067 49 = .ok (.sipush 255, 3) := by decide +kernel
theorem dJ2_getChar_3b067_52 : decode cJ2_getChar_3b067 52 = .ok (.iand, 1) := by decide +kernel
theorem dJ2_getChar_3b067_53 : decode cJ2_getChar_3b067 53 = .ok (.getstatic 63, 3) := by decide +kernel
theorem dJ2_getChar_3b067_56 : decode cJ2_getChar_3b067 56 = .ok (.ishl, 1) := by decide +kernel
theorem dJ2_getChar_3b067_57 : decode cJ2_getChar_3b067 57 = .ok (.ior, 1) := by decide +kernel
theorem dJ2_getChar_3b067_58 : decode cJ2_getChar_3b067 58 = .ok (.i2c, 1) := by decide +kernel
theorem dJ2_getChar_3b067_59 : decode cJ2_getChar_3b067 59 = .ok (.ireturn, 1) := by decide +kernel
theorem dJ2_length_9d52b_0 : decode cJ2_length_9d52b 0 = .ok (.aload_n 0, 1) := by decide +kernel
theorem dJ2_length_9d52b_1 : decode cJ2_length_9d52b 1 = .ok (.arraylength, 1) := by decide +kernel
theorem dJ2_length_9d52b_2 : decode cJ2_length_9d52b 2 = .ok (.iconst 1, 1) := by decide +kernel
theorem dJ2_length_9d52b_3 : decode cJ2_length_9d52b 3 = .ok (.ishr, 1) := by decide +kernel
theorem dJ2_length_9d52b_4 : decode cJ2_length_9d52b 4 = .ok (.ireturn, 1) := by decide +kernel
theorem dJ2_charAt_3b067_0 : decode cJ2_charAt_3b067 0 = .ok (.iload_n 1, 1) := by decide +kernel
theorem dJ2_charAt_3b067_1 : decode cJ2_charAt_3b067 1 = .ok (.aload_n 0, 1) := by decide +kernel
theorem dJ2_charAt_3b067_2 : decode cJ2_charAt_3b067 2 = .ok (.invokestatic 67, 3) := by decide +kernel
theorem dJ2_charAt_3b067_5 : decode cJ2_charAt_3b067 5 = .ok (.aload_n 0, 1) := by decide +kernel
theorem dJ2_charAt_3b067_6 : decode cJ2_charAt_3b067 6 = .ok (.iload_n 1, 1) := by decide +kernel
theorem dJ2_charAt_3b067_7 : decode cJ2_charAt_3b067 7 = .ok (.invokestatic 71, 3) := by decide +kernel
theorem dJ2_charAt_3b067_10 : decode cJ2_charAt_3b067 10 = .ok (.ireturn, 1) := by decide +kernel
theorem dJ2_checkIndex_2214a_0 : decode cJ2_checkIndex_2214a 0 = .ok (.iload_n 0, 1) := by decide +kernel
theorem dJ2_checkIndex_2214a_1 : decode cJ2_checkIndex_2214a 1 = .ok (.aload_n 1, 1) := by decide +kernel
theorem dJ2_checkIndex_2214a_2 : decode cJ2_checkIndex_2214a 2 = .ok (.invokestatic 48, 3) := by decide +kernel
theorem dJ2_checkIndex_2214a_5 : decode cJ2_checkIndex_2214a 5 = .ok (.invokestatic 414, 3) := by decide +kernel
theorem dJ2_checkIndex_2214a_8 : decode cJ2_checkIndex_2214a 8 = .ok (.return_, 1) := by decide +kernel
theorem dJ3_checkIndex_8e157_0 : decode cJ3_checkIndex_8e157 0 = .ok (.iload_n 0, 1) := by decide +kernel
theorem dJ3_checkIndex_8e157_1 : decode cJ3_checkIndex_8e157 1 = .ok (.ifCond .lt 8, 3) := by decide +kernel
theorem dJ3_checkIndex_8e157_4 : decode cJ3_checkIndex_8e157 4 = .ok (.iload_n 0, 1) := by decide +kernel
theorem dJ3_checkIndex_8e157_5 : decode cJ3_checkIndex_8e157 5 = .ok (.iload_n 1, 1) := by decide +kernel
theorem dJ3_checkIndex_8e157_6 : decode cJ3_checkIndex_8e157 6 = .ok (.if_icmp .lt 10, 3) := by decide +kernel
theorem dJ3_checkIndex_8e157_9 : decode cJ3_checkIndex_8e157 9 = .ok (.aload_n 2, 1) := by decide +kernel
theorem dJ3_checkIndex_8e157_10 : decode cJ3_checkIndex_8e157 10 = .ok (.iload_n 0, 1) := by decide +kernel
theorem dJ3_checkIndex_8e157_11 : decode cJ3_checkIndex_8e157 11 = .ok (.iload_n 1, 1) := by decide +kernel
theorem dJ3_checkIndex_8e157_12 : decode cJ3_checkIndex_8e157 12 = .ok (.invokestatic 95, 3) := by decide +kernel
theorem dJ3_checkIndex_8e157_15 : decode cJ3_checkIndex_8e157 15 = .ok (.athrow, 1) := by decide +kernel
theorem dJ3_checkIndex_8e157_16 : decode cJ3_checkIndex_8e157 16 = .ok (.iload_n 0, 1) := by decide +kernel
theorem dJ3_checkIndex_8e157_17 : decode cJ3_checkIndex_8e157 17 = .ok (.ireturn, 1) := by decide +kernel
theorem dJ9_abs_0f7a4_0 : decode cJ9_abs_0f7a4 0 = .ok (.iload_n 0, 1) := by decide +kernel
theorem dJ9_abs_0f7a4_1 : decode cJ9_abs_0f7a4 1 = .ok (.ifCond .ge 8, 3) := by decide +kernel
theorem dJ9_abs_0f7a4_4 : decode cJ9_abs_0f7a4 4 = .ok (.iload_n 0, 1) := by decide +kernel
theorem dJ9_abs_0f7a4_5 : decode cJ9_abs_0f7a4 5 = .ok (.ineg, 1) := by decide +kernel
theorem dJ9_abs_0f7a4_6 : decode cJ9_abs_0f7a4 6 = .ok (.goto 4, 3) := by decide +kernel
theorem dJ9_abs_0f7a4_9 : decode cJ9_abs_0f7a4 9 = .ok (.iload_n 0, 1) := by decide +kernel
theorem dJ9_abs_0f7a4_10 : decode cJ9_abs_0f7a4 10 = .ok (.ireturn, 1) := by decide +kernel
theorem dJ9_min_7cf53_0 : decode cJ9_min_7cf53 0 = .ok (.iload_n 0, 1) := by decide +kernel
theorem dJ9_min_7cf53_1 : decode cJ9_min_7cf53 1 = .ok (.iload_n 1, 1) := by decide +kernel
theorem dJ9_min_7cf53_2 : decode cJ9_min_7cf53 2 = .ok (.if_icmp .gt 7, 3) := by decide +kernel
theorem dJ9_min_7cf53_5 : decode cJ9_min_7cf53 5 = .ok (.iload_n 0, 1) := by decide +kernel
theorem dJ9_min_7cf53_6 : decode cJ9_min_7cf53 6 = .ok (.goto 4, 3) := by decide +kernel
theorem dJ9_min_7cf53_9 : decode cJ9_min_7cf53 9 = .ok (.iload_n 1, 1) := by decide +kernel
theorem dJ9_min_7cf53_10 : decode cJ9_min_7cf53 10 = .ok (.ireturn, 1) := by decide +kernel
end
section
theorem dX7_init_0 : decode cX7_init 0 = .ok (.aload_n 0, 1) := by decide +kernel
theorem dX7_init_1 : decode cX7_init 1 = .ok (.invokespecial 1, 3) := by decide +kernel
theorem dX7_init_4 : decode cX7_init 4 = .ok (.aload_n 0, 1) := by decide +kernel
theorem dX7_init_5 : decode cX7_init 5 = .ok (.new 7, 3) := by decide +kernel
theorem dX7_init_8 : decode cX7_init 8 = .ok (.dup, 1) := by decide +kernel
theorem dX7_init_9 : decode cX7_init 9 = .ok (.invokespecial 9, 3) := by decide +kernel
theorem dX7_init_12 : decode cX7_init 12 = .ok (.putfield 10, 3) := by decide +kernel
theorem dX7_init_15 : decode cX7_init 15 = .ok (.aload_n 0, 1) := by decide +kernel
theorem dX7_init_16 : decode cX7_init 16 = .ok (.new 16, 3) := by decide +kernel
theorem dX7_init_19 : decode cX7_init 19 = .ok (.dup, 1) := by decide +kernel
theorem dX7_init_20 : decode cX7_init 20 = .ok (.invokespecial 18, 3) := by decide +kernel
theorem dX7_init_23 : decode cX7_init 23 = .ok (.putfield 19, 3) := by decide +kernel
theorem dX7_init_26 : decode cX7_init 26 = .ok (.aload_n 0, 1) := by decide +kernel
theorem dX7_init_27 : decode cX7_init 27 = .ok (.new 16, 3) := by decide +kernel
theorem dX7_init_30 : decode cX7_init 30 = .ok (.dup, 1) := by decide +kernel
theorem dX7_init_31 : decode cX7_init 31 = .ok (.invokespecial 18, 3) := by decide +kernel
theorem dX7_init_34 : decode cX7_init 34 = .ok (.putfield 23, 3) := by decide +kernel
theorem dX7_init_37 : decode cX7_init 37 = .ok (.aload_n 0, 1) := by decide +kernel
theorem dX7_init_38 : decode cX7_init 38 = .ok (.new 26, 3) := by decide +kernel
theorem dX7_init_41 : decode cX7_init 41 = .ok (.dup, 1) := by decide +kernel
theorem dX7_init_42 : decode cX7_init 42 = .ok (.invokespecial 28, 3) := by decide +kernel
theorem dX7_init_45 : decode cX7_init 45 = .ok (.putfield 29, 3) := by decide +kernel
theorem dX7_init_48 : decode cX7_init 48 = .ok (.aload_n 0, 1) := by decide +kernel
theorem dX7_init_49 : decode cX7_init 49 = .ok (.new 33, 3) := by decide +kernel
theorem dX7_init_52 : decode cX7_init 52 = .ok (.dup, 1) := by decide +kernel
theorem dX7_init_53 : decode cX7_init 53 = .ok (.invokespecial 35, 3) := by decide +kernel
theorem dX7_init_56 : decode cX7_init 56 = .ok (.putfield 36, 3) := by decide +kernel
theorem dX7_init_59 : decode cX7_init 59 = .ok (.aload_n 0, 1) := by decide +kernel
theorem dX7_init_60 : decode cX7_init 60 = .ok (.new 40, 3) := by decide +kernel
theorem dX7_init_63 : decode cX7_init 63 = .ok (.dup, 1) := by decide +kernel
theorem dX7_init_64 : decode cX7_init 64 = .ok (.invokespecial 42, 3) := by decide +kernel
theorem dX7_init_67 : decode cX7_init 67 = .ok (.putfield 43, 3) := by decide +kernel
theorem dX7_init_70 : decode cX7_init 70 = .ok (.aload_n 0, 1) := by decide +kernel
theorem dX7_init_71 : decode cX7_init 71 = .ok (.new 40, 3) := by decide +kernel
theorem dX7_init_74 : decode cX7_init 74 = .ok (.dup, 1) := by decide +kernel
theorem dX7_init_75 : decode cX7_init 75 = .ok (.invokespecial 42, 3) := by decide +kernel
theorem dX7_init_78 : decode cX7_init 78 = .ok (.putfield 47, 3) := by decide +kernel
theorem dX7_init_81 : decode cX7_init 81 = .ok (.return_, 1) := by decide +kernel
theorem dX7_append_0 : decode cX7_append 0 = .ok (.iload_n 1, 1) := by decide +kernel
theorem dX7_append_1 : decode cX7_append 1 = .ok (.ifCond .lt 10, 3) := by decide +kernel
theorem dX7_append_4 : decode cX7_append 4 = .ok (.iload_n 1, 1) := by decide +kernel
theorem dX7_append_5 : decode cX7_append 5 = .ok (.sipush 255, 3) := by decide +kernel
theorem dX7_append_8 : decode cX7_append 8 = .ok (.if_icmp .le 13, 3) := by decide +kernel
theorem dX7_append_11 : decode cX7_append 11 = .ok (.new 50, 3) := by decide +kernel
theorem dX7_append_14 : decode cX7_append 14 = .ok (.dup, 1) := by decide +kernel
theorem dX7_append_15 : decode cX7_append 15 = .ok (.ldc 52, 2) := by decide +kernel
theorem dX7_append_17 : decode cX7_append 17 = .ok (.invokespecial 54, 3) := by decide +kernel
theorem dX7_append_20 : decode cX7_append 20 = .ok (.athrow, 1) := by decide +kernel
theorem dX7_append_21 : decode cX7_append 21 = .ok (.aload_n 0, 1) := by decide +kernel
theorem dX7_append_22 : decode cX7_append 22 = .ok (.getfield 10, 3) := by decide +kernel
theorem dX7_append_25 : decode cX7_append 25 = .ok (.getfield 57, 3) := by decide +kernel
theorem dX7_append_28 : decode cX7_append 28 = .ok (.bipush 120, 2) := by decide +kernel
theorem dX7_append_30 : decode cX7_append 30 = .ok (.if_icmp .lt 13, 3) := by decide +kernel
theorem dX7_append_33 : decode cX7_append 33 = .ok (.new 61, 3) := by decide +kernel
theorem dX7_append_36 : decode cX7_append 36 = .ok (.dup, 1) := by decide +kernel
theorem dX7_append_37 : decode cX7_append 37 = .ok (.ldc 63, 2) := by decide +kernel
theorem dX7_append_39 : decode cX7_append 39 = .ok (.invokespecial 65, 3) := by decide +kernel
theorem dX7_append_42 : decode cX7_append 42 = .ok (.athrow, 1) := by decide +kernel
theorem dX7_append_43 : decode cX7_append 43 = .ok (.aload_n 0, 1) := by decide +kernel
theorem dX7_append_44 : decode cX7_append 44 = .ok (.getfield 10, 3) := by decide +kernel
theorem dX7_append_47 : decode cX7_append 47 = .ok (.iload_n 1, 1) := by decide +kernel
theorem dX7_append_48 : decode cX7_append 48 = .ok (.i2c, 1) := by decide +kernel
theorem dX7_append_49 : decode cX7_append 49 = .ok (.invokevirtual 66, 3) := by decide +kernel
theorem dX7_append_52 : decode cX7_append 52 = .ok (.aload_n 0, 1) := by decide +kernel
theorem dX7_append_53 : decode cX7_append 53 = .ok (.getfield 10, 3) := by decide +kernel
theorem dX7_append_56 : decode cX7_append 56 = .ok (.getfield 57, 3) := by decide +kernel
theorem dX7_append_59 : decode cX7_append 59 = .ok (.ireturn, 1) := by decide +kernel
theorem dX7_clearText_0 : decode cX7_clearText 0 = .ok (.aload_n 0, 1) := by decide +kernel
theorem dX7_clearText_1 : decode cX7_clearText 1 = .ok (.getfield 10, 3) := by decide +kernel
theorem dX7_clearText_4 : decode cX7_clearText 4 = .ok (.getfield 57, 3) := by decide +kernel
theorem dX7_clearText_7 : decode cX7_clearText 7 = .ok (.istore_n 1, 1) := by decide +kernel
theorem dX7_clearText_8 : decode cX7_clearText 8 = .ok (.aload_n 0, 1) := by decide +kernel
theorem dX7_clearText_9 : decode cX7_clearText 9 = .ok (.getfield 10, 3) := by decide +kernel
theorem dX7_clearText_12 : decode cX7_clearText 12 = .ok (.iconst 0, 1) := by decide +kernel
theorem dX7_clearText_13 : decode cX7_clearText 13 = .ok (.putfield 57, 3) := by decide +kernel
theorem dX7_clearText_16 : decode cX7_clearText 16 = .ok (.iload_n 1, 1) := by decide +kernel
theorem dX7_clearText_17 : decode cX7_clearText 17 = .ok (.ireturn, 1) := by decide +kernel
theorem dX7_errorPosition_0 : decode cX7_errorPosition 0 = .ok (.aload_n 0, 1) := by decide +kernel
theorem dX7_errorPosition_1 : decode cX7_errorPosition 1 = .ok (.getfield 10, 3) := by decide +kernel
theorem dX7_errorPosition_4 : decode cX7_errorPosition 4 = .ok (.invokevirtual 70, 3) := by decide +kernel
theorem dX7_errorPosition_7 : decode cX7_errorPosition 7 = .ok (.ireturn, 1) := by decide +kernel
theorem dX7_load_0 : decode cX7_load 0 = .ok (.aload_n 0, 1) := by decide +kernel
theorem dX7_load_1 : decode cX7_load 1 = .ok (.getfield 10, 3) := by decide +kernel
theorem dX7_load_4 : decode cX7_load 4 = .ok (.invokevirtual 70, 3) := by decide +kernel
theorem dX7_load_7 : decode cX7_load 7 = .ok (.iconst (-1), 1) := by decide +kernel
theorem dX7_load_8 : decode cX7_load 8 = .ok (.if_icmp .eq 13, 3) := by decide +kernel
theorem dX7_load_11 : decode cX7_load 11 = .ok (.new 61, 3) := by decide +kernel
theorem dX7_load_14 : decode cX7_load 14 = .ok (.dup, 1) := by decide +kernel
theorem dX7_load_15 : decode cX7_load 15 = .ok (.ldc 74, 2) := by decide +kernel
theorem dX7_load_17 : decode cX7_load 17 = .ok (.invokespecial 65, 3) := by decide +kernel
theorem dX7_load_20 : decode cX7_load 20 = .ok (.athrow, 1) := by decide +kernel
theorem dX7_load_21 : decode cX7_load 21 = .ok (.aload_n 0, 1) := by decide +kernel
theorem dX7_load_22 : decode cX7_load 22 = .ok (.getfield 19, 3) := by decide +kernel
theorem dX7_load_25 : decode cX7_load 25 = .ok (.invokevirtual 76, 3) := by decide +kernel
theorem dX7_load_28 : decode cX7_load 28 = .ok (.aload_n 0, 1) := by decide +kernel
theorem dX7_load_29 : decode cX7_load 29 = .ok (.getfield 29, 3) := by decide +kernel
theorem dX7_load_32 : decode cX7_load 32 = .ok (.invokevirtual 79, 3) := by decide +kernel
theorem dX7_load_35 : decode cX7_load 35 = .ok (.aload_n 0, 1) := by decide +kernel
theorem dX7_load_36 : decode cX7_load 36 = .ok (.getfield 43, 3) := by decide +kernel
theorem dX7_load_39 : decode cX7_load 39 = .ok (.iconst 0, 1) := by decide +kernel
theorem dX7_load_40 : decode cX7_load 40 = .ok (.putfield 82, 3) := by decide +kernel
theorem dX7_load_43 : decode cX7_load 43 = .ok (.aload_n 0, 1) := by decide +kernel
theorem dX7_load_44 : decode cX7_load 44 = .ok (.getfield 47, 3) := by decide +kernel
theorem dX7_load_47 : decode cX7_load 47 = .ok (.iconst 0, 1) := by decide +kernel
theorem dX7_load_48 : decode cX7_load 48 = .ok (.putfield 82, 3) := by decide +kernel
theorem dX7_load_51 : decode cX7_load 51 = .ok (.aload_n 0, 1) := by decide +kernel
theorem dX7_load_52 : decode cX7_load 52 = .ok (.getfield 10, 3) := by decide +kernel
theorem dX7_load_55 : decode cX7_load 55 = .ok (.aload_n 0, 1) := by decide +kernel
theorem dX7_load_56 : decode cX7_load 56 = .ok (.getfield 19, 3) := by decide +kernel
theorem dX7_load_59 : decode cX7_load 59 = .ok (.invokevirtual 86, 3) := by decide +kernel
theorem dX7_load_62 : decode cX7_load 62 = .ok (.ireturn, 1) := by decide +kernel
theorem dX7_about_0 : decode cX7_about 0 = .ok (.iload_n 1, 1) := by decide +kernel
theorem dX7_about_1 : decode cX7_about 1 = .ok (.tableswitch 143 0 9 #[55, 63, 71, 79, 87, 95, 111, 119, 127, 135], 55) := by decide +kernel
theorem dX7_about_56 : decode cX7_about 56 = .ok (.aload_n 0, 1) := by decide +kernel
theorem dX7_about_57 : decode cX7_about 57 = .ok (.getfield 19, 3) := by decide +kernel
theorem dX7_about_60 : decode cX7_about 60 = .ok (.getfield 90, 3) := by decide +kernel
theorem dX7_about_63 : decode cX7_about 63 = .ok (.ireturn, 1) := by decide +kernel
theorem dX7_about_64 : decode cX7_about 64 = .ok (.aload_n 0, 1) := by decide +kernel
theorem dX7_about_65 : decode cX7_about 65 = .ok (.getfield 19, 3) := by decide +kernel
theorem dX7_about_68 : decode cX7_about 68 = .ok (.getfield 93, 3) := by decide +kernel
theorem dX7_about_71 : decode cX7_about 71 = .ok (.ireturn, 1) := by decide +kernel
theorem dX7_about_72 : decode cX7_about 72 = .ok (.aload_n 0, 1) := by decide +kernel
theorem dX7_about_73 : decode cX7_about 73 = .ok (.getfield 19, 3) := by decide +kernel
theorem dX7_about_76 : decode cX7_about 76 = .ok (.invokevirtual 96, 3) := by decide +kernel
theorem dX7_about_79 : decode cX7_about 79 = .ok (.ireturn, 1) := by decide +kernel
theorem dX7_about_80 : decode cX7_about 80 = .ok (.aload_n 0, 1) := by decide +kernel
theorem dX7_about_81 : decode cX7_about 81 = .ok (.getfield 19, 3) := by decide +kernel
theorem dX7_about_84 : decode cX7_about 84 = .ok (.invokevirtual 99, 3) := by decide +kernel
theorem dX7_about_87 : decode cX7_about 87 = .ok (.ireturn, 1) := by decide +kernel
theorem dX7_about_88 : decode cX7_about 88 = .ok (.aload_n 0, 1) := by decide +kernel
theorem dX7_about_89 : decode cX7_about 89 = .ok (.getfield 19, 3) := by decide +kernel
theorem dX7_about_92 : decode cX7_about 92 = .ok (.invokevirtual 102, 3) := by decide +kernel
theorem dX7_about_95 : decode cX7_about 95 = .ok (.ireturn, 1) := by decide +kernel
theorem dX7_about_96 : decode cX7_about 96 = .ok (.aload_n 0, 1) := by decide +kernel
theorem dX7_about_97 : decode cX7_about 97 = .ok (.getfield 19, 3) := by decide +kernel
theorem dX7_about_100 : decode cX7_about 100 = .ok (.invokevirtual 105, 3) := by decide +kernel
theorem dX7_about_103 : decode cX7_about 103 = .ok (.ifCond .eq 7, 3) := by decide +kernel
theorem dX7_about_106 : decode cX7_about 106 = .ok (.iconst 1, 1) := by decide +kernel
theorem dX7_about_107 : decode cX7_about 107 = .ok (.goto 4, 3) := by decide +kernel
theorem dX7_about_110 : decode cX7_about 110 = .ok (.iconst 0, 1) := by decide +kernel
theorem dX7_about_111 : decode cX7_about 111 = .ok (.ireturn, 1) := by decide +kernel
theorem dX7_about_112 : decode cX7_about 112 = .ok (.aload_n 0, 1) := by decide +kernel
theorem dX7_about_113 : decode cX7_about 113 = .ok (.getfield 19, 3) := by decide +kernel
theorem dX7_about_116 : decode cX7_about 116 = .ok (.getfield 109, 3) := by decide +kernel
theorem dX7_about_119 : decode cX7_about 119 = .ok (.ireturn, 1) := by decide +kernel
theorem dX7_about_120 : decode cX7_about 120 = .ok (.aload_n 0, 1) := by decide +kernel
theorem dX7_about_121 : decode cX7_about 121 = .ok (.getfield 19, 3) := by decide +kernel
theorem dX7_about_124 : decode cX7_about 124 = .ok (.invokevirtual 112, 3) := by decide +kernel
theorem dX7_about_127 : decode cX7_about 127 = .ok (.ireturn, 1) := by decide +kernel
theorem dX7_about_128 : decode cX7_about 128 = .ok (.aload_n 0, 1) := by decide +kernel
theorem dX7_about_129 : decode cX7_about 129 = .ok (.getfield 19, 3) := by decide +kernel
theorem dX7_about_132 : decode cX7_about 132 = .ok (.getfield 115, 3) := by decide +kernel
theorem dX7_about_135 : decode cX7_about 135 = .ok (.ireturn, 1) := by decide +kernel
theorem dX7_about_136 : decode cX7_about 136 = .ok (.aload_n 0, 1) := by decide +kernel
theorem dX7_about_137 : decode cX7_about 137 = .ok (.getfield 19, 3) := by decide +kernel
theorem dX7_about_140 : decode cX7_about 140 = .ok (.getfield 118, 3) := by decide +kernel
theorem dX7_about_143 : decode cX7_about 143 = .ok (.ireturn, 1) := by decide +kernel
theorem dX7_about_144 : decode cX7_about 144 = .ok (.new 50, 3) := by decide +kernel
theorem dX7_about_147 : decode cX7_about 147 = .ok (.dup, 1) := by decide +kernel
theorem dX7_about_148 : decode cX7_about 148 = .ok (.ldc 121, 2) := by decide +kernel
theorem dX7_about_150 : decode cX7_about 150 = .ok (.invokespecial 54, 3) := by decide +kernel
theorem dX7_about_153 : decode cX7_about 153 = .ok (.athrow, 1) := by decide +kernel
theorem dX7_jewelOf_0 : decode cX7_jewelOf 0 = .ok (.aload_n 0, 1) := by decide +kernel
theorem dX7_jewelOf_1 : decode cX7_jewelOf 1 = .ok (.getfield 19, 3) := by decide +kernel
theorem dX7_jewelOf_4 : decode cX7_jewelOf 4 = .ok (.iload_n 1, 1) := by decide +kernel
theorem dX7_jewelOf_5 : decode cX7_jewelOf 5 = .ok (.invokevirtual 123, 3) := by decide +kernel
theorem dX7_jewelOf_8 : decode cX7_jewelOf 8 = .ok (.ifCond .ne 13, 3) := by decide +kernel
theorem dX7_jewelOf_11 : decode cX7_jewelOf 11 = .ok (.new 127, 3) := by decide +kernel
theorem dX7_jewelOf_14 : decode cX7_jewelOf 14 = .ok (.dup, 1) := by decide +kernel
theorem dX7_jewelOf_15 : decode cX7_jewelOf 15 = .ok (.ldc 129, 2) := by decide +kernel
theorem dX7_jewelOf_17 : decode cX7_jewelOf 17 = .ok (.invokespecial 131, 3) := by decide +kernel
theorem dX7_jewelOf_20 : decode cX7_jewelOf 20 = .ok (.athrow, 1) := by decide +kernel
theorem dX7_jewelOf_21 : decode cX7_jewelOf 21 = .ok (.iload_n 2, 1) := by decide +kernel
theorem dX7_jewelOf_22 : decode cX7_jewelOf 22 = .ok (.tableswitch 53 0 2 #[26, 35, 44], 26) := by decide +kernel
theorem dX7_jewelOf_48 : decode cX7_jewelOf 48 = .ok (.aload_n 0, 1) := by decide +kernel
theorem dX7_jewelOf_49 : decode cX7_jewelOf 49 = .ok (.getfield 19, 3) := by decide +kernel
theorem dX7_jewelOf_52 : decode cX7_jewelOf 52 = .ok (.iload_n 1, 1) := by decide +kernel
theorem dX7_jewelOf_53 : decode cX7_jewelOf 53 = .ok (.invokevirtual 132, 3) := by decide +kernel
theorem dX7_jewelOf_56 : decode cX7_jewelOf 56 = .ok (.ireturn, 1) := by decide +kernel
theorem dX7_jewelOf_57 : decode cX7_jewelOf 57 = .ok (.aload_n 0, 1) := by decide +kernel
theorem dX7_jewelOf_58 : decode cX7_jewelOf 58 = .ok (.getfield 19, 3) := by decide +kernel
theorem dX7_jewelOf_61 : decode cX7_jewelOf 61 = .ok (.iload_n 1, 1) := by decide +kernel
theorem dX7_jewelOf_62 : decode cX7_jewelOf 62 = .ok (.invokevirtual 136, 3) := by decide +kernel
theorem dX7_jewelOf_65 : decode cX7_jewelOf 65 = .ok (.ireturn, 1) := by decide +kernel
theorem dX7_jewelOf_66 : decode cX7_jewelOf 66 = .ok (.aload_n 0, 1) := by decide +kernel
theorem dX7_jewelOf_67 : decode cX7_jewelOf 67 = .ok (.getfield 19, 3) := by decide +kernel
theorem dX7_jewelOf_70 : decode cX7_jewelOf 70 = .ok (.iload_n 1, 1) := by decide +kernel
theorem dX7_jewelOf_71 : decode cX7_jewelOf 71 = .ok (.invokevirtual 139, 3) := by decide +kernel
theorem dX7_jewelOf_74 : decode cX7_jewelOf 74 = .ok (.ireturn, 1) := by decide +kernel
theorem dX7_jewelOf_75 : decode cX7_jewelOf 75 = .ok (.new 50, 3) := by decide +kernel
theorem dX7_jewelOf_78 : decode cX7_jewelOf 78 = .ok (.dup, 1) := by decide +kernel
theorem dX7_jewelOf_79 : decode cX7_jewelOf 79 = .ok (.ldc 142, 2) := by decide +kernel
theorem dX7_jewelOf_81 : decode cX7_jewelOf 81 = .ok (.invokespecial 54, 3) := by decide +kernel
theorem dX7_jewelOf_84 : decode cX7_jewelOf 84 = .ok (.athrow, 1) := by decide +kernel
theorem dX7_placeOf_0 : decode cX7_placeOf 0 = .ok (.aload_n 0, 1) := by decide +kernel
theorem dX7_placeOf_1 : decode cX7_placeOf 1 = .ok (.getfield 19, 3) := by decide +kernel
theorem dX7_placeOf_4 : decode cX7_placeOf 4 = .ok (.iload_n 1, 1) := by decide +kernel
theorem dX7_placeOf_5 : decode cX7_placeOf 5 = .ok (.invokevirtual 144, 3) := by decide +kernel
theorem dX7_placeOf_8 : decode cX7_placeOf 8 = .ok (.ifCond .ne 13, 3) := by decide +kernel
theorem dX7_placeOf_11 : decode cX7_placeOf 11 = .ok (.new 127, 3) := by decide +kernel
theorem dX7_placeOf_14 : decode cX7_placeOf 14 = .ok (.dup, 1) := by decide +kernel
theorem dX7_placeOf_15 : decode cX7_placeOf 15 = .ok (.ldc 147, 2) := by decide +kernel
theorem dX7_placeOf_17 : decode cX7_placeOf 17 = .ok (.invokespecial 131, 3) := by decide +kernel
theorem dX7_placeOf_20 : decode cX7_placeOf 20 = .ok (.athrow, 1) := by decide +kernel
theorem dX7_placeOf_21 : decode cX7_placeOf 21 = .ok (.iload_n 2, 1) := by decide +kernel
theorem dX7_placeOf_22 : decode cX7_placeOf 22 = .ok (.tableswitch 74 0 3 #[30, 39, 48, 57], 30) := by decide +kernel
theorem dX7_placeOf_52 : decode cX7_placeOf 52 = .ok (.aload_n 0, 1) := by decide +kernel
theorem dX7_placeOf_53 : decode cX7_placeOf 53 = .ok (.getfield 19, 3) := by decide +kernel
theorem dX7_placeOf_56 : decode cX7_placeOf 56 = .ok (.iload_n 1, 1) := by decide +kernel
theorem dX7_placeOf_57 : decode cX7_placeOf 57 = .ok (.invokevirtual 149, 3) := by decide +kernel
theorem dX7_placeOf_60 : decode cX7_placeOf 60 = .ok (.ireturn, 1) := by decide +kernel
theorem dX7_placeOf_61 : decode cX7_placeOf 61 = .ok (.aload_n 0, 1) := by decide +kernel
theorem dX7_placeOf_62 : decode cX7_placeOf 62 = .ok (.getfield 19, 3) := by decide +kernel
theorem dX7_placeOf_65 : decode cX7_placeOf 65 = .ok (.iload_n 1, 1) := by decide +kernel
theorem dX7_placeOf_66 : decode cX7_placeOf 66 = .ok (.invokevirtual 152, 3) := by decide +kernel
theorem dX7_placeOf_69 : decode cX7_placeOf 69 = .ok (.ireturn, 1) := by decide +kernel
theorem dX7_placeOf_70 : decode cX7_placeOf 70 = .ok (.aload_n 0, 1) := by decide +kernel
theorem dX7_placeOf_71 : decode cX7_placeOf 71 = .ok (.getfield 19, 3) := by decide +kernel
theorem dX7_placeOf_74 : decode cX7_placeOf 74 = .ok (.iload_n 1, 1) := by decide +kernel
theorem dX7_placeOf_75 : decode cX7_placeOf 75 = .ok (.invokevirtual 155, 3) := by decide +kernel
theorem dX7_placeOf_78 : decode cX7_placeOf 78 = .ok (.ireturn, 1) := by decide +kernel
theorem dX7_placeOf_79 : decode cX7_placeOf 79 = .ok (.aload_n 0, 1) := by decide +kernel
theorem dX7_placeOf_80 : decode cX7_placeOf 80 = .ok (.getfield 19, 3) := by decide +kernel
theorem dX7_placeOf_83 : decode cX7_placeOf 83 = .ok (.iload_n 1, 1) := by decide +kernel
theorem dX7_placeOf_84 : decode cX7_placeOf 84 = .ok (.invokevirtual 158, 3) := by decide +kernel
theorem dX7_placeOf_87 : decode cX7_placeOf 87 = .ok (.ifCond .eq 7, 3) := by decide +kernel
theorem dX7_placeOf_90 : decode cX7_placeOf 90 = .ok (.iconst 1, 1) := by decide +kernel
theorem dX7_placeOf_91 : decode cX7_placeOf 91 = .ok (.goto 4, 3) := by decide +kernel
theorem dX7_placeOf_94 : decode cX7_placeOf 94 = .ok (.iconst 0, 1) := by decide +kernel
theorem dX7_placeOf_95 : decode cX7_placeOf 95 = .ok (.ireturn, 1) := by decide +kernel
theorem dX7_placeOf_96 : decode cX7_placeOf 96 = .ok (.new 50, 3) := by decide +kernel
theorem dX7_placeOf_99 : decode cX7_placeOf 99 = .ok (.dup, 1) := by decide +kernel
theorem dX7_placeOf_100 : decode cX7_placeOf 100 = .ok (.ldc 161, 2) := by decide +kernel
theorem dX7_placeOf_102 : decode cX7_placeOf 102 = .ok (.invokespecial 54, 3) := by decide +kernel
theorem dX7_placeOf_105 : decode cX7_placeOf 105 = .ok (.athrow, 1) := by decide +kernel
theorem dX7_runOf_0 : decode cX7_runOf 0 = .ok (.aload_n 0, 1) := by decide +kernel
theorem dX7_runOf_1 : decode cX7_runOf 1 = .ok (.getfield 19, 3) := by decide +kernel
theorem dX7_runOf_4 : decode cX7_runOf 4 = .ok (.iload_n 1, 1) := by decide +kernel
theorem dX7_runOf_5 : decode cX7_runOf 5 = .ok (.invokevirtual 163, 3) := by decide +kernel
theorem dX7_runOf_8 : decode cX7_runOf 8 = .ok (.ifCond .ne 13, 3) := by decide +kernel
theorem dX7_runOf_11 : decode cX7_runOf 11 = .ok (.new 127, 3) := by decide +kernel
theorem dX7_runOf_14 : decode cX7_runOf 14 = .ok (.dup, 1) := by decide +kernel
theorem dX7_runOf_15 : decode cX7_runOf 15 = .ok (.ldc 166, 2) := by decide +kernel
theorem dX7_runOf_17 : decode cX7_runOf 17 = .ok (.invokespecial 131, 3) := by decide +kernel
theorem dX7_runOf_20 : decode cX7_runOf 20 = .ok (.athrow, 1) := by decide +kernel
theorem dX7_runOf_21 : decode cX7_runOf 21 = .ok (.iload_n 2, 1) := by decide +kernel
theorem dX7_runOf_22 : decode cX7_runOf 22 = .ok (.tableswitch 73 0 3 #[30, 39, 48, 64], 30) := by decide +kernel
theorem dX7_runOf_52 : decode cX7_runOf 52 = .ok (.aload_n 0, 1) := by decide +kernel
theorem dX7_runOf_53 : decode cX7_runOf 53 = .ok (.getfield 19, 3) := by decide +kernel
theorem dX7_runOf_56 : decode cX7_runOf 56 = .ok (.iload_n 1, 1) := by decide +kernel
theorem dX7_runOf_57 : decode cX7_runOf 57 = .ok (.invokevirtual 168, 3) := by decide +kernel
theorem dX7_runOf_60 : decode cX7_runOf 60 = .ok (.ireturn, 1) := by decide +kernel
theorem dX7_runOf_61 : decode cX7_runOf 61 = .ok (.aload_n 0, 1) := by decide +kernel
theorem dX7_runOf_62 : decode cX7_runOf 62 = .ok (.getfield 19, 3) := by decide +kernel
theorem dX7_runOf_65 : decode cX7_runOf 65 = .ok (.iload_n 1, 1) := by decide +kernel
theorem dX7_runOf_66 : decode cX7_runOf 66 = .ok (.invokevirtual 171, 3) := by decide +kernel
theorem dX7_runOf_69 : decode cX7_runOf 69 = .ok (.ireturn, 1) := by decide +kernel
theorem dX7_runOf_70 : decode cX7_runOf 70 = .ok (.aload_n 0, 1) := by decide +kernel
theorem dX7_runOf_71 : decode cX7_runOf 71 = .ok (.getfield 19, 3) := by decide +kernel
theorem dX7_runOf_74 : decode cX7_runOf 74 = .ok (.aload_n 0, 1) := by decide +kernel
theorem dX7_runOf_75 : decode cX7_runOf 75 = .ok (.getfield 19, 3) := by decide +kernel
theorem dX7_runOf_78 : decode cX7_runOf 78 = .ok (.iload_n 1, 1) := by decide +kernel
theorem dX7_runOf_79 : decode cX7_runOf 79 = .ok (.invokevirtual 168, 3) := by decide +kernel
theorem dX7_runOf_82 : decode cX7_runOf 82 = .ok (.invokevirtual 152, 3) := by decide +kernel
theorem dX7_runOf_85 : decode cX7_runOf 85 = .ok (.ireturn, 1) := by decide +kernel
theorem dX7_runOf_86 : decode cX7_runOf 86 = .ok (.aload_n 0, 1) := by decide +kernel
theorem dX7_runOf_87 : decode cX7_runOf 87 = .ok (.getfield 19, 3) := by decide +kernel
theorem dX7_runOf_90 : decode cX7_runOf 90 = .ok (.iload_n 1, 1) := by decide +kernel
theorem dX7_runOf_91 : decode cX7_runOf 91 = .ok (.invokevirtual 174, 3) := by decide +kernel
theorem dX7_runOf_94 : decode cX7_runOf 94 = .ok (.ireturn, 1) := by decide +kernel
theorem dX7_runOf_95 : decode cX7_runOf 95 = .ok (.new 50, 3) := by decide +kernel
theorem dX7_runOf_98 : decode cX7_runOf 98 = .ok (.dup, 1) := by decide +kernel
theorem dX7_runOf_99 : decode cX7_runOf 99 = .ok (.ldc 161, 2) := by decide +kernel
theorem dX7_runOf_101 : decode cX7_runOf 101 = .ok (.invokespecial 54, 3) := by decide +kernel
theorem dX7_runOf_104 : decode cX7_runOf 104 = .ok (.athrow, 1) := by decide +kernel
theorem dX7_has_0 : decode cX7_has 0 = .ok (.iload_n 1, 1) := by decide +kernel
theorem dX7_has_1 : decode cX7_has 1 = .ok (.invokestatic 177, 3) := by decide +kernel
theorem dX7_has_4 : decode cX7_has 4 = .ok (.ifCond .eq 10, 3) := by decide +kernel
theorem dX7_has_7 : decode cX7_has 7 = .ok (.iload_n 2, 1) := by decide +kernel
theorem dX7_has_8 : decode cX7_has 8 = .ok (.invokestatic 180, 3) := by decide +kernel
theorem dX7_has_11 : decode cX7_has 11 = .ok (.ifCond .ne 13, 3) := by decide +kernel
theorem dX7_has_14 : decode cX7_has 14 = .ok (.new 127, 3) := by decide +kernel
theorem dX7_has_17 : decode cX7_has 17 = .ok (.dup, 1) := by decide +kernel
theorem dX7_has_18 : decode cX7_has 18 = .ok (.ldc 183, 2) := by decide +kernel
theorem dX7_has_20 : decode cX7_has 20 = .ok (.invokespecial 131, 3) := by decide +kernel
theorem dX7_has_23 : decode cX7_has 23 = .ok (.athrow, 1) := by decide +kernel
theorem dX7_has_24 : decode cX7_has 24 = .ok (.aload_n 0, 1) := by decide +kernel
theorem dX7_has_25 : decode cX7_has 25 = .ok (.getfield 19, 3) := by decide +kernel
theorem dX7_has_28 : decode cX7_has 28 = .ok (.iload_n 1, 1) := by decide +kernel
theorem dX7_has_29 : decode cX7_has 29 = .ok (.iload_n 2, 1) := by decide +kernel
theorem dX7_has_30 : decode cX7_has 30 = .ok (.invokevirtual 185, 3) := by decide +kernel
theorem dX7_has_33 : decode cX7_has 33 = .ok (.ireturn, 1) := by decide +kernel
theorem dX7_jewel_0 : decode cX7_jewel 0 = .ok (.iload_n 1, 1) := by decide +kernel
theorem dX7_jewel_1 : decode cX7_jewel 1 = .ok (.invokestatic 180, 3) := by decide +kernel
theorem dX7_jewel_4 : decode cX7_jewel 4 = .ok (.ifCond .ne 13, 3) := by decide +kernel
theorem dX7_jewel_7 : decode cX7_jewel 7 = .ok (.new 127, 3) := by decide +kernel
theorem dX7_jewel_10 : decode cX7_jewel 10 = .ok (.dup, 1) := by decide +kernel
theorem dX7_jewel_11 : decode cX7_jewel 11 = .ok (.ldc 189, 2) := by decide +kernel
theorem dX7_jewel_13 : decode cX7_jewel 13 = .ok (.invokespecial 131, 3) := by decide +kernel
theorem dX7_jewel_16 : decode cX7_jewel 16 = .ok (.athrow, 1) := by decide +kernel
theorem dX7_jewel_17 : decode cX7_jewel 17 = .ok (.iload_n 2, 1) := by decide +kernel
theorem dX7_jewel_18 : decode cX7_jewel 18 = .ok (.invokestatic 191, 3) := by decide +kernel
theorem dX7_jewel_21 : decode cX7_jewel 21 = .ok (.ifCond .ne 13, 3) := by decide +kernel
theorem dX7_jewel_24 : decode cX7_jewel 24 = .ok (.new 50, 3) := by decide +kernel
theorem dX7_jewel_27 : decode cX7_jewel 27 = .ok (.dup, 1) := by decide +kernel
theorem dX7_jewel_28 : decode cX7_jewel 28 = .ok (.ldc 194, 2) := by decide +kernel
theorem dX7_jewel_30 : decode cX7_jewel 30 = .ok (.invokespecial 54, 3) := by decide +kernel
theorem dX7_jewel_33 : decode cX7_jewel 33 = .ok (.athrow, 1) := by decide +kernel
theorem dX7_jewel_34 : decode cX7_jewel 34 = .ok (.aload_n 0, 1) := by decide +kernel
theorem dX7_jewel_35 : decode cX7_jewel 35 = .ok (.getfield 19, 3) := by decide +kernel
theorem dX7_jewel_38 : decode cX7_jewel 38 = .ok (.getfield 90, 3) := by decide +kernel
theorem dX7_jewel_41 : decode cX7_jewel 41 = .ok (.bipush 16, 2) := by decide +kernel
theorem dX7_jewel_43 : decode cX7_jewel 43 = .ok (.if_icmp .lt 13, 3) := by decide +kernel
theorem dX7_jewel_46 : decode cX7_jewel 46 = .ok (.new 61, 3) := by decide +kernel
theorem dX7_jewel_49 : decode cX7_jewel 49 = .ok (.dup, 1) := by decide +kernel
theorem dX7_jewel_50 : decode cX7_jewel 50 = .ok (.ldc 196, 2) := by decide +kernel
theorem dX7_jewel_52 : decode cX7_jewel 52 = .ok (.invokespecial 65, 3) := by decide +kernel
theorem dX7_jewel_55 : decode cX7_jewel 55 = .ok (.athrow, 1) := by decide +kernel
theorem dX7_jewel_56 : decode cX7_jewel 56 = .ok (.aload_n 0, 1) := by decide +kernel
theorem dX7_jewel_57 : decode cX7_jewel 57 = .ok (.getfield 29, 3) := by decide +kernel
theorem dX7_jewel_60 : decode cX7_jewel 60 = .ok (.aload_n 0, 1) := by decide +kernel
theorem dX7_jewel_61 : decode cX7_jewel 61 = .ok (.getfield 19, 3) := by decide +kernel
theorem dX7_jewel_64 : decode cX7_jewel 64 = .ok (.invokevirtual 198, 3) := by decide +kernel
theorem dX7_jewel_67 : decode cX7_jewel 67 = .ok (.aload_n 0, 1) := by decide +kernel
theorem dX7_jewel_68 : decode cX7_jewel 68 = .ok (.getfield 19, 3) := by decide +kernel
theorem dX7_jewel_71 : decode cX7_jewel 71 = .ok (.iload_n 1, 1) := by decide +kernel
theorem dX7_jewel_72 : decode cX7_jewel 72 = .ok (.iload_n 2, 1) := by decide +kernel
theorem dX7_jewel_73 : decode cX7_jewel 73 = .ok (.invokevirtual 202, 3) := by decide +kernel
theorem dX7_jewel_76 : decode cX7_jewel 76 = .ok (.pop, 1) := by decide +kernel
theorem dX7_jewel_77 : decode cX7_jewel 77 = .ok (.aload_n 0, 1) := by decide +kernel
theorem dX7_jewel_78 : decode cX7_jewel 78 = .ok (.getfield 19, 3) := by decide +kernel
theorem dX7_jewel_81 : decode cX7_jewel 81 = .ok (.getfield 90, 3) := by decide +kernel
theorem dX7_jewel_84 : decode cX7_jewel 84 = .ok (.iconst 1, 1) := by decide +kernel
theorem dX7_jewel_85 : decode cX7_jewel 85 = .ok (.isub, 1) := by decide +kernel
theorem dX7_jewel_86 : decode cX7_jewel 86 = .ok (.ireturn, 1) := by decide +kernel
theorem dX7_exchange_0 : decode cX7_exchange 0 = .ok (.aload_n 0, 1) := by decide +kernel
theorem dX7_exchange_1 : decode cX7_exchange 1 = .ok (.getfield 19, 3) := by decide +kernel
theorem dX7_exchange_4 : decode cX7_exchange 4 = .ok (.iload_n 1, 1) := by decide +kernel
theorem dX7_exchange_5 : decode cX7_exchange 5 = .ok (.invokevirtual 123, 3) := by decide +kernel
theorem dX7_exchange_8 : decode cX7_exchange 8 = .ok (.ifCond .eq 14, 3) := by decide +kernel
theorem dX7_exchange_11 : decode cX7_exchange 11 = .ok (.aload_n 0, 1) := by decide +kernel
theorem dX7_exchange_12 : decode cX7_exchange 12 = .ok (.getfield 19, 3) := by decide +kernel
theorem dX7_exchange_15 : decode cX7_exchange 15 = .ok (.iload_n 2, 1) := by decide +kernel
theorem dX7_exchange_16 : decode cX7_exchange 16 = .ok (.invokevirtual 123, 3) := by decide +kernel
theorem dX7_exchange_19 : decode cX7_exchange 19 = .ok (.ifCond .ne 13, 3) := by decide +kernel
theorem dX7_exchange_22 : decode cX7_exchange 22 = .ok (.new 127, 3) := by decide +kernel
theorem dX7_exchange_25 : decode cX7_exchange 25 = .ok (.dup, 1) := by decide +kernel
theorem dX7_exchange_26 : decode cX7_exchange 26 = .ok (.ldc 129, 2) := by decide +kernel
theorem dX7_exchange_28 : decode cX7_exchange 28 = .ok (.invokespecial 131, 3) := by decide +kernel
theorem dX7_exchange_31 : decode cX7_exchange 31 = .ok (.athrow, 1) := by decide +kernel
theorem dX7_exchange_32 : decode cX7_exchange 32 = .ok (.aload_n 0, 1) := by decide +kernel
theorem dX7_exchange_33 : decode cX7_exchange 33 = .ok (.getfield 29, 3) := by decide +kernel
theorem dX7_exchange_36 : decode cX7_exchange 36 = .ok (.aload_n 0, 1) := by decide +kernel
theorem dX7_exchange_37 : decode cX7_exchange 37 = .ok (.getfield 19, 3) := by decide +kernel
theorem dX7_exchange_40 : decode cX7_exchange 40 = .ok (.invokevirtual 198, 3) := by decide +kernel
theorem dX7_exchange_43 : decode cX7_exchange 43 = .ok (.aload_n 0, 1) := by decide +kernel
theorem dX7_exchange_44 : decode cX7_exchange 44 = .ok (.getfield 19, 3) := by decide +kernel
theorem dX7_exchange_47 : decode cX7_exchange 47 = .ok (.iload_n 1, 1) := by decide +kernel
theorem dX7_exchange_48 : decode cX7_exchange 48 = .ok (.iload_n 2, 1) := by decide +kernel
theorem dX7_exchange_49 : decode cX7_exchange 49 = .ok (.invokevirtual 206, 3) := by decide +kernel
theorem dX7_exchange_52 : decode cX7_exchange 52 = .ok (.pop, 1) := by decide +kernel
theorem dX7_exchange_53 : decode cX7_exchange 53 = .ok (.aload_n 0, 1) := by decide +kernel
theorem dX7_exchange_54 : decode cX7_exchange 54 = .ok (.getfield 19, 3) := by decide +kernel
theorem dX7_exchange_57 : decode cX7_exchange 57 = .ok (.invokevirtual 102, 3) := by decide +kernel
theorem dX7_exchange_60 : decode cX7_exchange 60 = .ok (.ireturn, 1) := by decide +kernel
theorem dX7_breakAt_0 : decode cX7_breakAt 0 = .ok (.aload_n 0, 1) := by decide +kernel
theorem dX7_breakAt_1 : decode cX7_breakAt 1 = .ok (.getfield 19, 3) := by decide +kernel
theorem dX7_breakAt_4 : decode cX7_breakAt 4 = .ok (.iload_n 1, 1) := by decide +kernel
theorem dX7_breakAt_5 : decode cX7_breakAt 5 = .ok (.invokevirtual 123, 3) := by decide +kernel
theorem dX7_breakAt_8 : decode cX7_breakAt 8 = .ok (.ifCond .ne 13, 3) := by decide +kernel
theorem dX7_breakAt_11 : decode cX7_breakAt 11 = .ok (.new 127, 3) := by decide +kernel
theorem dX7_breakAt_14 : decode cX7_breakAt 14 = .ok (.dup, 1) := by decide +kernel
theorem dX7_breakAt_15 : decode cX7_breakAt 15 = .ok (.ldc 129, 2) := by decide +kernel
theorem dX7_breakAt_17 : decode cX7_breakAt 17 = .ok (.invokespecial 131, 3) := by decide +kernel
theorem dX7_breakAt_20 : decode cX7_breakAt 20 = .ok (.athrow, 1) := by decide +kernel
theorem dX7_breakAt_21 : decode cX7_breakAt 21 = .ok (.aload_n 0, 1) := by decide +kernel
theorem dX7_breakAt_22 : decode cX7_breakAt 22 = .ok (.getfield 29, 3) := by decide +kernel
theorem dX7_breakAt_25 : decode cX7_breakAt 25 = .ok (.aload_n 0, 1) := by decide +kernel
theorem dX7_breakAt_26 : decode cX7_breakAt 26 = .ok (.getfield 19, 3) := by decide +kernel
theorem dX7_breakAt_29 : decode cX7_breakAt 29 = .ok (.invokevirtual 198, 3) := by decide +kernel
theorem dX7_breakAt_32 : decode cX7_breakAt 32 = .ok (.aload_n 0, 1) := by decide +kernel
theorem dX7_breakAt_33 : decode cX7_breakAt 33 = .ok (.getfield 19, 3) := by decide +kernel
theorem dX7_breakAt_36 : decode cX7_breakAt 36 = .ok (.getfield 93, 3) := by decide +kernel
theorem dX7_breakAt_39 : decode cX7_breakAt 39 = .ok (.istore_n 2, 1) := by decide +kernel
theorem dX7_breakAt_40 : decode cX7_breakAt 40 = .ok (.aload_n 0, 1) := by decide +kernel
theorem dX7_breakAt_41 : decode cX7_breakAt 41 = .ok (.getfield 19, 3) := by decide +kernel
theorem dX7_breakAt_44 : decode cX7_breakAt 44 = .ok (.iload_n 1, 1) := by decide +kernel
theorem dX7_breakAt_45 : decode cX7_breakAt 45 = .ok (.invokevirtual 209, 3) := by decide +kernel
theorem dX7_breakAt_48 : decode cX7_breakAt 48 = .ok (.pop, 1) := by decide +kernel
theorem dX7_breakAt_49 : decode cX7_breakAt 49 = .ok (.iload_n 2, 1) := by decide +kernel
theorem dX7_breakAt_50 : decode cX7_breakAt 50 = .ok (.ireturn, 1) := by decide +kernel
theorem dX7_turnRound_0 : decode cX7_turnRound 0 = .ok (.aload_n 0, 1) := by decide +kernel
theorem dX7_turnRound_1 : decode cX7_turnRound 1 = .ok (.getfield 29, 3) := by decide +kernel
theorem dX7_turnRound_4 : decode cX7_turnRound 4 = .ok (.aload_n 0, 1) := by decide +kernel
theorem dX7_turnRound_5 : decode cX7_turnRound 5 = .ok (.getfield 19, 3) := by decide +kernel
theorem dX7_turnRound_8 : decode cX7_turnRound 8 = .ok (.invokevirtual 198, 3) := by decide +kernel
theorem dX7_turnRound_11 : decode cX7_turnRound 11 = .ok (.aload_n 0, 1) := by decide +kernel
theorem dX7_turnRound_12 : decode cX7_turnRound 12 = .ok (.getfield 19, 3) := by decide +kernel
theorem dX7_turnRound_15 : decode cX7_turnRound 15 = .ok (.invokevirtual 212, 3) := by decide +kernel
theorem dX7_turnRound_18 : decode cX7_turnRound 18 = .ok (.aload_n 0, 1) := by decide +kernel
theorem dX7_turnRound_19 : decode cX7_turnRound 19 = .ok (.getfield 19, 3) := by decide +kernel
theorem dX7_turnRound_22 : decode cX7_turnRound 22 = .ok (.getfield 90, 3) := by decide +kernel
theorem dX7_turnRound_25 : decode cX7_turnRound 25 = .ok (.ireturn, 1) := by decide +kernel
theorem dX7_cut_0 : decode cX7_cut 0 = .ok (.aload_n 0, 1) := by decide +kernel
theorem dX7_cut_1 : decode cX7_cut 1 = .ok (.getfield 19, 3) := by decide +kernel
theorem dX7_cut_4 : decode cX7_cut 4 = .ok (.iload_n 1, 1) := by decide +kernel
theorem dX7_cut_5 : decode cX7_cut 5 = .ok (.invokevirtual 215, 3) := by decide +kernel
theorem dX7_cut_8 : decode cX7_cut 8 = .ok (.ifCond .ne 13, 3) := by decide +kernel
theorem dX7_cut_11 : decode cX7_cut 11 = .ok (.new 127, 3) := by decide +kernel
theorem dX7_cut_14 : decode cX7_cut 14 = .ok (.dup, 1) := by decide +kernel
theorem dX7_cut_15 : decode cX7_cut 15 = .ok (.ldc 147, 2) := by decide +kernel
theorem dX7_cut_17 : decode cX7_cut 17 = .ok (.invokespecial 131, 3) := by decide +kernel
theorem dX7_cut_20 : decode cX7_cut 20 = .ok (.athrow, 1) := by decide +kernel
theorem dX7_cut_21 : decode cX7_cut 21 = .ok (.aload_n 0, 1) := by decide +kernel
theorem dX7_cut_22 : decode cX7_cut 22 = .ok (.getfield 29, 3) := by decide +kernel
theorem dX7_cut_25 : decode cX7_cut 25 = .ok (.aload_n 0, 1) := by decide +kernel
theorem dX7_cut_26 : decode cX7_cut 26 = .ok (.getfield 19, 3) := by decide +kernel
theorem dX7_cut_29 : decode cX7_cut 29 = .ok (.invokevirtual 198, 3) := by decide +kernel
theorem dX7_cut_32 : decode cX7_cut 32 = .ok (.aload_n 0, 1) := by decide +kernel
theorem dX7_cut_33 : decode cX7_cut 33 = .ok (.getfield 19, 3) := by decide +kernel
theorem dX7_cut_36 : decode cX7_cut 36 = .ok (.iload_n 1, 1) := by decide +kernel
theorem dX7_cut_37 : decode cX7_cut 37 = .ok (.iload_n 2, 1) := by decide +kernel
theorem dX7_cut_38 : decode cX7_cut 38 = .ok (.invokevirtual 218, 3) := by decide +kernel
theorem dX7_cut_41 : decode cX7_cut 41 = .ok (.pop, 1) := by decide +kernel
theorem dX7_cut_42 : decode cX7_cut 42 = .ok (.aload_n 0, 1) := by decide +kernel
theorem dX7_cut_43 : decode cX7_cut 43 = .ok (.getfield 19, 3) := by decide +kernel
theorem dX7_cut_46 : decode cX7_cut 46 = .ok (.invokevirtual 99, 3) := by decide +kernel
theorem dX7_cut_49 : decode cX7_cut 49 = .ok (.ireturn, 1) := by decide +kernel
theorem dX7_give_0 : decode cX7_give 0 = .ok (.aload_n 0, 1) := by decide +kernel
theorem dX7_give_1 : decode cX7_give 1 = .ok (.getfield 19, 3) := by decide +kernel
theorem dX7_give_4 : decode cX7_give 4 = .ok (.iload_n 1, 1) := by decide +kernel
theorem dX7_give_5 : decode cX7_give 5 = .ok (.invokevirtual 163, 3) := by decide +kernel
theorem dX7_give_8 : decode cX7_give 8 = .ok (.ifCond .ne 13, 3) := by decide +kernel
theorem dX7_give_11 : decode cX7_give 11 = .ok (.new 127, 3) := by decide +kernel
theorem dX7_give_14 : decode cX7_give 14 = .ok (.dup, 1) := by decide +kernel
theorem dX7_give_15 : decode cX7_give 15 = .ok (.ldc 166, 2) := by decide +kernel
theorem dX7_give_17 : decode cX7_give 17 = .ok (.invokespecial 131, 3) := by decide +kernel
theorem dX7_give_20 : decode cX7_give 20 = .ok (.athrow, 1) := by decide +kernel
theorem dX7_give_21 : decode cX7_give 21 = .ok (.iload_n 2, 1) := by decide +kernel
theorem dX7_give_22 : decode cX7_give 22 = .ok (.invokestatic 222, 3) := by decide +kernel
theorem dX7_give_25 : decode cX7_give 25 = .ok (.ifCond .ne 13, 3) := by decide +kernel
theorem dX7_give_28 : decode cX7_give 28 = .ok (.new 50, 3) := by decide +kernel
theorem dX7_give_31 : decode cX7_give 31 = .ok (.dup, 1) := by decide +kernel
theorem dX7_give_32 : decode cX7_give 32 = .ok (.ldc 225, 2) := by decide +kernel
theorem dX7_give_34 : decode cX7_give 34 = .ok (.invokespecial 54, 3) := by decide +kernel
theorem dX7_give_37 : decode cX7_give 37 = .ok (.athrow, 1) := by decide +kernel
theorem dX7_give_38 : decode cX7_give 38 = .ok (.aload_n 0, 1) := by decide +kernel
theorem dX7_give_39 : decode cX7_give 39 = .ok (.getfield 29, 3) := by decide +kernel
theorem dX7_give_42 : decode cX7_give 42 = .ok (.aload_n 0, 1) := by decide +kernel
theorem dX7_give_43 : decode cX7_give 43 = .ok (.getfield 19, 3) := by decide +kernel
theorem dX7_give_46 : decode cX7_give 46 = .ok (.invokevirtual 198, 3) := by decide +kernel
theorem dX7_give_49 : decode cX7_give 49 = .ok (.aload_n 0, 1) := by decide +kernel
theorem dX7_give_50 : decode cX7_give 50 = .ok (.getfield 19, 3) := by decide +kernel
theorem dX7_give_53 : decode cX7_give 53 = .ok (.iload_n 1, 1) := by decide +kernel
theorem dX7_give_54 : decode cX7_give 54 = .ok (.iload_n 2, 1) := by decide +kernel
theorem dX7_give_55 : decode cX7_give 55 = .ok (.invokevirtual 227, 3) := by decide +kernel
theorem dX7_give_58 : decode cX7_give 58 = .ok (.pop, 1) := by decide +kernel
theorem dX7_give_59 : decode cX7_give 59 = .ok (.aload_n 0, 1) := by decide +kernel
theorem dX7_give_60 : decode cX7_give 60 = .ok (.getfield 19, 3) := by decide +kernel
theorem dX7_give_63 : decode cX7_give 63 = .ok (.invokevirtual 102, 3) := by decide +kernel
theorem dX7_give_66 : decode cX7_give 66 = .ok (.ireturn, 1) := by decide +kernel
theorem dX7_take_0 : decode cX7_take 0 = .ok (.aload_n 0, 1) := by decide +kernel
theorem dX7_take_1 : decode cX7_take 1 = .ok (.getfield 19, 3) := by decide +kernel
theorem dX7_take_4 : decode cX7_take 4 = .ok (.iload_n 1, 1) := by decide +kernel
theorem dX7_take_5 : decode cX7_take 5 = .ok (.invokevirtual 163, 3) := by decide +kernel
theorem dX7_take_8 : decode cX7_take 8 = .ok (.ifCond .ne 13, 3) := by decide +kernel
theorem dX7_take_11 : decode cX7_take 11 = .ok (.new 127, 3) := by decide +kernel
theorem dX7_take_14 : decode cX7_take 14 = .ok (.dup, 1) := by decide +kernel
theorem dX7_take_15 : decode cX7_take 15 = .ok (.ldc 166, 2) := by decide +kernel
theorem dX7_take_17 : decode cX7_take 17 = .ok (.invokespecial 131, 3) := by decide +kernel
theorem dX7_take_20 : decode cX7_take 20 = .ok (.athrow, 1) := by decide +kernel
theorem dX7_take_21 : decode cX7_take 21 = .ok (.aload_n 0, 1) := by decide +kernel
theorem dX7_take_22 : decode cX7_take 22 = .ok (.getfield 29, 3) := by decide +kernel
theorem dX7_take_25 : decode cX7_take 25 = .ok (.aload_n 0, 1) := by decide +kernel
theorem dX7_take_26 : decode cX7_take 26 = .ok (.getfield 19, 3) := by decide +kernel
theorem dX7_take_29 : decode cX7_take 29 = .ok (.invokevirtual 198, 3) := by decide +kernel
theorem dX7_take_32 : decode cX7_take 32 = .ok (.aload_n 0, 1) := by decide +kernel
theorem dX7_take_33 : decode cX7_take 33 = .ok (.getfield 19, 3) := by decide +kernel
theorem dX7_take_36 : decode cX7_take 36 = .ok (.iload_n 1, 1) := by decide +kernel
theorem dX7_take_37 : decode cX7_take 37 = .ok (.invokevirtual 230, 3) := by decide +kernel
theorem dX7_take_40 : decode cX7_take 40 = .ok (.istore_n 2, 1) := by decide +kernel
theorem dX7_take_41 : decode cX7_take 41 = .ok (.iload_n 2, 1) := by decide +kernel
theorem dX7_take_42 : decode cX7_take 42 = .ok (.ifCond .ne 15, 3) := by decide +kernel
theorem dX7_take_45 : decode cX7_take 45 = .ok (.aload_n 0, 1) := by decide +kernel
theorem dX7_take_46 : decode cX7_take 46 = .ok (.getfield 19, 3) := by decide +kernel
theorem dX7_take_49 : decode cX7_take 49 = .ok (.iload_n 1, 1) := by decide +kernel
theorem dX7_take_50 : decode cX7_take 50 = .ok (.invokevirtual 233, 3) := by decide +kernel
theorem dX7_take_53 : decode cX7_take 53 = .ok (.pop, 1) := by decide +kernel
theorem dX7_take_54 : decode cX7_take 54 = .ok (.goto 16, 3) := by decide +kernel
theorem dX7_take_57 : decode cX7_take 57 = .ok (.aload_n 0, 1) := by decide +kernel
theorem dX7_take_58 : decode cX7_take 58 = .ok (.getfield 19, 3) := by decide +kernel
theorem dX7_take_61 : decode cX7_take 61 = .ok (.dup, 1) := by decide +kernel
theorem dX7_take_62 : decode cX7_take 62 = .ok (.getfield 115, 3) := by decide +kernel
theorem dX7_take_65 : decode cX7_take 65 = .ok (.iconst 1, 1) := by decide +kernel
theorem dX7_take_66 : decode cX7_take 66 = .ok (.iadd, 1) := by decide +kernel
theorem dX7_take_67 : decode cX7_take 67 = .ok (.putfield 115, 3) := by decide +kernel
theorem dX7_take_70 : decode cX7_take 70 = .ok (.iload_n 2, 1) := by decide +kernel
theorem dX7_take_71 : decode cX7_take 71 = .ok (.ireturn, 1) := by decide +kernel
theorem dX7_deal_0 : decode cX7_deal 0 = .ok (.iload_n 1, 1) := by decide +kernel
theorem dX7_deal_1 : decode cX7_deal 1 = .ok (.invokestatic 177, 3) := by decide +kernel
theorem dX7_deal_4 : decode cX7_deal 4 = .ok (.ifCond .ne 13, 3) := by decide +kernel
theorem dX7_deal_7 : decode cX7_deal 7 = .ok (.new 127, 3) := by decide +kernel
theorem dX7_deal_10 : decode cX7_deal 10 = .ok (.dup, 1) := by decide +kernel
theorem dX7_deal_11 : decode cX7_deal 11 = .ok (.ldc 236, 2) := by decide +kernel
theorem dX7_deal_13 : decode cX7_deal 13 = .ok (.invokespecial 131, 3) := by decide +kernel
theorem dX7_deal_16 : decode cX7_deal 16 = .ok (.athrow, 1) := by decide +kernel
theorem dX7_deal_17 : decode cX7_deal 17 = .ok (.aload_n 0, 1) := by decide +kernel
theorem dX7_deal_18 : decode cX7_deal 18 = .ok (.getfield 29, 3) := by decide +kernel
theorem dX7_deal_21 : decode cX7_deal 21 = .ok (.aload_n 0, 1) := by decide +kernel
theorem dX7_deal_22 : decode cX7_deal 22 = .ok (.getfield 19, 3) := by decide +kernel
theorem dX7_deal_25 : decode cX7_deal 25 = .ok (.invokevirtual 198, 3) := by decide +kernel
theorem dX7_deal_28 : decode cX7_deal 28 = .ok (.aload_n 0, 1) := by decide +kernel
theorem dX7_deal_29 : decode cX7_deal 29 = .ok (.getfield 19, 3) := by decide +kernel
theorem dX7_deal_32 : decode cX7_deal 32 = .ok (.iload_n 1, 1) := by decide +kernel
theorem dX7_deal_33 : decode cX7_deal 33 = .ok (.invokevirtual 238, 3) := by decide +kernel
theorem dX7_deal_36 : decode cX7_deal 36 = .ok (.pop, 1) := by decide +kernel
theorem dX7_deal_37 : decode cX7_deal 37 = .ok (.aload_n 0, 1) := by decide +kernel
theorem dX7_deal_38 : decode cX7_deal 38 = .ok (.getfield 19, 3) := by decide +kernel
theorem dX7_deal_41 : decode cX7_deal 41 = .ok (.invokevirtual 102, 3) := by decide +kernel
theorem dX7_deal_44 : decode cX7_deal 44 = .ok (.ireturn, 1) := by decide +kernel
theorem dX7_divide_0 : decode cX7_divide 0 = .ok (.aload_n 0, 1) := by decide +kernel
theorem dX7_divide_1 : decode cX7_divide 1 = .ok (.aload_n 0, 1) := by decide +kernel
theorem dX7_divide_2 : decode cX7_divide 2 = .ok (.getfield 19, 3) := by decide +kernel
theorem dX7_divide_5 : decode cX7_divide 5 = .ok (.invokevirtual 241, 3) := by decide +kernel
theorem dX7_divide_8 : decode cX7_divide 8 = .ok (.istore_n 1, 1) := by decide +kernel
theorem dX7_divide_9 : decode cX7_divide 9 = .ok (.iload_n 1, 1) := by decide +kernel
theorem dX7_divide_10 : decode cX7_divide 10 = .ok (.iconst (-1), 1) := by decide +kernel
theorem dX7_divide_11 : decode cX7_divide 11 = .ok (.if_icmp .ne 13, 3) := by decide +kernel
theorem dX7_divide_14 : decode cX7_divide 14 = .ok (.new 61, 3) := by decide +kernel
theorem dX7_divide_17 : decode cX7_divide 17 = .ok (.dup, 1) := by decide +kernel
theorem dX7_divide_18 : decode cX7_divide 18 = .ok (.ldc 244, 2) := by decide +kernel
theorem dX7_divide_20 : decode cX7_divide 20 = .ok (.invokespecial 65, 3) := by decide +kernel
theorem dX7_divide_23 : decode cX7_divide 23 = .ok (.athrow, 1) := by decide +kernel
theorem dX7_divide_24 : decode cX7_divide 24 = .ok (.aload_n 0, 1) := by decide +kernel
theorem dX7_divide_25 : decode cX7_divide 25 = .ok (.getfield 29, 3) := by decide +kernel
theorem dX7_divide_28 : decode cX7_divide 28 = .ok (.aload_n 0, 1) := by decide +kernel
theorem dX7_divide_29 : decode cX7_divide 29 = .ok (.getfield 19, 3) := by decide +kernel
theorem dX7_divide_32 : decode cX7_divide 32 = .ok (.invokevirtual 198, 3) := by decide +kernel
theorem dX7_divide_35 : decode cX7_divide 35 = .ok (.aload_n 0, 1) := by decide +kernel
theorem dX7_divide_36 : decode cX7_divide 36 = .ok (.getfield 19, 3) := by decide +kernel
theorem dX7_divide_39 : decode cX7_divide 39 = .ok (.invokevirtual 246, 3) := by decide +kernel
theorem dX7_divide_42 : decode cX7_divide 42 = .ok (.iconst 0, 1) := by decide +kernel
theorem dX7_divide_43 : decode cX7_divide 43 = .ok (.istore_n 2, 1) := by decide +kernel
theorem dX7_divide_44 : decode cX7_divide 44 = .ok (.iload_n 2, 1) := by decide +kernel
theorem dX7_divide_45 : decode cX7_divide 45 = .ok (.iload_n 1, 1) := by decide +kernel
theorem dX7_divide_46 : decode cX7_divide 46 = .ok (.if_icmp .ge 26, 3) := by decide +kernel
theorem dX7_divide_49 : decode cX7_divide 49 = .ok (.aload_n 0, 1) := by decide +kernel
theorem dX7_divide_50 : decode cX7_divide 50 = .ok (.getfield 19, 3) := by decide +kernel
theorem dX7_divide_53 : decode cX7_divide 53 = .ok (.aload_n 0, 1) := by decide +kernel
theorem dX7_divide_54 : decode cX7_divide 54 = .ok (.getfield 36, 3) := by decide +kernel
theorem dX7_divide_57 : decode cX7_divide 57 = .ok (.iload_n 2, 1) := by decide +kernel
theorem dX7_divide_58 : decode cX7_divide 58 = .ok (.invokevirtual 249, 3) := by decide +kernel
theorem dX7_divide_61 : decode cX7_divide 61 = .ok (.iconst 1, 1) := by decide +kernel
theorem dX7_divide_62 : decode cX7_divide 62 = .ok (.invokevirtual 218, 3) := by decide +kernel
theorem dX7_divide_65 : decode cX7_divide 65 = .ok (.pop, 1) := by decide +kernel
theorem dX7_divide_66 : decode cX7_divide 66 = .ok (.iinc 2 1, 3) := by decide +kernel
theorem dX7_divide_69 : decode cX7_divide 69 = .ok (.goto (-25), 3) := by decide +kernel
theorem dX7_divide_72 : decode cX7_divide 72 = .ok (.aload_n 0, 1) := by decide +kernel
theorem dX7_divide_73 : decode cX7_divide 73 = .ok (.getfield 19, 3) := by decide +kernel
theorem dX7_divide_76 : decode cX7_divide 76 = .ok (.iconst 0, 1) := by decide +kernel
theorem dX7_divide_77 : decode cX7_divide 77 = .ok (.invokevirtual 238, 3) := by decide +kernel
theorem dX7_divide_80 : decode cX7_divide 80 = .ok (.pop, 1) := by decide +kernel
theorem dX7_divide_81 : decode cX7_divide 81 = .ok (.iload_n 1, 1) := by decide +kernel
theorem dX7_divide_82 : decode cX7_divide 82 = .ok (.ireturn, 1) := by decide +kernel
theorem dX7_set_0 : decode cX7_set 0 = .ok (.iload_n 1, 1) := by decide +kernel
theorem dX7_set_1 : decode cX7_set 1 = .ok (.invokestatic 252, 3) := by decide +kernel
theorem dX7_set_4 : decode cX7_set 4 = .ok (.ifCond .ne 13, 3) := by decide +kernel
theorem dX7_set_7 : decode cX7_set 7 = .ok (.new 50, 3) := by decide +kernel
theorem dX7_set_10 : decode cX7_set 10 = .ok (.dup, 1) := by decide +kernel
theorem dX7_set_11 : decode cX7_set 11 = .ok (.ldc 255, 2) := by decide +kernel
theorem dX7_set_13 : decode cX7_set 13 = .ok (.invokespecial 54, 3) := by decide +kernel
theorem dX7_set_16 : decode cX7_set 16 = .ok (.athrow, 1) := by decide +kernel
theorem dX7_set_17 : decode cX7_set 17 = .ok (.aload_n 0, 1) := by decide +kernel
theorem dX7_set_18 : decode cX7_set 18 = .ok (.getfield 29, 3) := by decide +kernel
theorem dX7_set_21 : decode cX7_set 21 = .ok (.aload_n 0, 1) := by decide +kernel
theorem dX7_set_22 : decode cX7_set 22 = .ok (.getfield 19, 3) := by decide +kernel
theorem dX7_set_25 : decode cX7_set 25 = .ok (.invokevirtual 198, 3) := by decide +kernel
theorem dX7_set_28 : decode cX7_set 28 = .ok (.aload_n 0, 1) := by decide +kernel
theorem dX7_set_29 : decode cX7_set 29 = .ok (.getfield 19, 3) := by decide +kernel
theorem dX7_set_32 : decode cX7_set 32 = .ok (.getfield 118, 3) := by decide +kernel
theorem dX7_set_35 : decode cX7_set 35 = .ok (.istore_n 2, 1) := by decide +kernel
theorem dX7_set_36 : decode cX7_set 36 = .ok (.aload_n 0, 1) := by decide +kernel
theorem dX7_set_37 : decode cX7_set 37 = .ok (.getfield 19, 3) := by decide +kernel
theorem dX7_set_40 : decode cX7_set 40 = .ok (.iload_n 1, 1) := by decide +kernel
theorem dX7_set_41 : decode cX7_set 41 = .ok (.invokevirtual 257, 3) := by decide +kernel
theorem dX7_set_44 : decode cX7_set 44 = .ok (.pop, 1) := by decide +kernel
theorem dX7_set_45 : decode cX7_set 45 = .ok (.iload_n 2, 1) := by decide +kernel
theorem dX7_set_46 : decode cX7_set 46 = .ok (.ireturn, 1) := by decide +kernel
theorem dX7_undo_0 : decode cX7_undo 0 = .ok (.aload_n 0, 1) := by decide +kernel
theorem dX7_undo_1 : decode cX7_undo 1 = .ok (.getfield 29, 3) := by decide +kernel
theorem dX7_undo_4 : decode cX7_undo 4 = .ok (.getfield 260, 3) := by decide +kernel
theorem dX7_undo_7 : decode cX7_undo 7 = .ok (.ifCond .gt 14, 3) := by decide +kernel
theorem dX7_undo_10 : decode cX7_undo 10 = .ok (.new 61, 3) := by decide +kernel
theorem dX7_undo_13 : decode cX7_undo 13 = .ok (.dup, 1) := by decide +kernel
theorem dX7_undo_14 : decode cX7_undo 14 = .ok (.ldc_w 263, 3) := by decide +kernel
theorem dX7_undo_17 : decode cX7_undo 17 = .ok (.invokespecial 65, 3) := by decide +kernel
theorem dX7_undo_20 : decode cX7_undo 20 = .ok (.athrow, 1) := by decide +kernel
theorem dX7_undo_21 : decode cX7_undo 21 = .ok (.aload_n 0, 1) := by decide +kernel
theorem dX7_undo_22 : decode cX7_undo 22 = .ok (.getfield 29, 3) := by decide +kernel
theorem dX7_undo_25 : decode cX7_undo 25 = .ok (.aload_n 0, 1) := by decide +kernel
theorem dX7_undo_26 : decode cX7_undo 26 = .ok (.getfield 19, 3) := by decide +kernel
theorem dX7_undo_29 : decode cX7_undo 29 = .ok (.invokevirtual 265, 3) := by decide +kernel
theorem dX7_undo_32 : decode cX7_undo 32 = .ok (.aload_n 0, 1) := by decide +kernel
theorem dX7_undo_33 : decode cX7_undo 33 = .ok (.getfield 29, 3) := by decide +kernel
theorem dX7_undo_36 : decode cX7_undo 36 = .ok (.getfield 260, 3) := by decide +kernel
theorem dX7_undo_39 : decode cX7_undo 39 = .ok (.ireturn, 1) := by decide +kernel
theorem dX7_fewest_0 : decode cX7_fewest 0 = .ok (.iload_n 1, 1) := by decide +kernel
theorem dX7_fewest_1 : decode cX7_fewest 1 = .ok (.ifCond .ne 12, 3) := by decide +kernel
theorem dX7_fewest_4 : decode cX7_fewest 4 = .ok (.aload_n 0, 1) := by decide +kernel
theorem dX7_fewest_5 : decode cX7_fewest 5 = .ok (.aload_n 0, 1) := by decide +kernel
theorem dX7_fewest_6 : decode cX7_fewest 6 = .ok (.getfield 19, 3) := by decide +kernel
theorem dX7_fewest_9 : decode cX7_fewest 9 = .ok (.invokevirtual 241, 3) := by decide +kernel
theorem dX7_fewest_12 : decode cX7_fewest 12 = .ok (.ireturn, 1) := by decide +kernel
theorem dX7_fewest_13 : decode cX7_fewest 13 = .ok (.iload_n 1, 1) := by decide +kernel
theorem dX7_fewest_14 : decode cX7_fewest 14 = .ok (.iconst 1, 1) := by decide +kernel
theorem dX7_fewest_15 : decode cX7_fewest 15 = .ok (.if_icmp .eq 14, 3) := by decide +kernel
theorem dX7_fewest_18 : decode cX7_fewest 18 = .ok (.new 50, 3) := by decide +kernel
theorem dX7_fewest_21 : decode cX7_fewest 21 = .ok (.dup, 1) := by decide +kernel
theorem dX7_fewest_22 : decode cX7_fewest 22 = .ok (.ldc_w 268, 3) := by decide +kernel
theorem dX7_fewest_25 : decode cX7_fewest 25 = .ok (.invokespecial 54, 3) := by decide +kernel
theorem dX7_fewest_28 : decode cX7_fewest 28 = .ok (.athrow, 1) := by decide +kernel
theorem dX7_fewest_29 : decode cX7_fewest 29 = .ok (.aload_n 0, 1) := by decide +kernel
theorem dX7_fewest_30 : decode cX7_fewest 30 = .ok (.getfield 36, 3) := by decide +kernel
theorem dX7_fewest_33 : decode cX7_fewest 33 = .ok (.aload_n 0, 1) := by decide +kernel
theorem dX7_fewest_34 : decode cX7_fewest 34 = .ok (.getfield 19, 3) := by decide +kernel
theorem dX7_fewest_37 : decode cX7_fewest 37 = .ok (.aload_n 0, 1) := by decide +kernel
theorem dX7_fewest_38 : decode cX7_fewest 38 = .ok (.getfield 19, 3) := by decide +kernel
theorem dX7_fewest_41 : decode cX7_fewest 41 = .ok (.getfield 93, 3) := by decide +kernel
theorem dX7_fewest_44 : decode cX7_fewest 44 = .ok (.invokevirtual 270, 3) := by decide +kernel
theorem dX7_fewest_47 : decode cX7_fewest 47 = .ok (.aload_n 0, 1) := by decide +kernel
theorem dX7_fewest_48 : decode cX7_fewest 48 = .ok (.getfield 36, 3) := by decide +kernel
theorem dX7_fewest_51 : decode cX7_fewest 51 = .ok (.invokevirtual 274, 3) := by decide +kernel
theorem dX7_fewest_54 : decode cX7_fewest 54 = .ok (.ireturn, 1) := by decide +kernel
theorem dX7_divided_0 : decode cX7_divided 0 = .ok (.iload_n 1, 1) := by decide +kernel
theorem dX7_divided_1 : decode cX7_divided 1 = .ok (.ifCond .ge 14, 3) := by decide +kernel
theorem dX7_divided_4 : decode cX7_divided 4 = .ok (.new 50, 3) := by decide +kernel
theorem dX7_divided_7 : decode cX7_divided 7 = .ok (.dup, 1) := by decide +kernel
theorem dX7_divided_8 : decode cX7_divided 8 = .ok (.ldc_w 277, 3) := by decide +kernel
theorem dX7_divided_11 : decode cX7_divided 11 = .ok (.invokespecial 54, 3) := by decide +kernel
theorem dX7_divided_14 : decode cX7_divided 14 = .ok (.athrow, 1) := by decide +kernel
theorem dX7_divided_15 : decode cX7_divided 15 = .ok (.iload_n 1, 1) := by decide +kernel
theorem dX7_divided_16 : decode cX7_divided 16 = .ok (.aload_n 0, 1) := by decide +kernel
theorem dX7_divided_17 : decode cX7_divided 17 = .ok (.aload_n 0, 1) := by decide +kernel
theorem dX7_divided_18 : decode cX7_divided 18 = .ok (.getfield 19, 3) := by decide +kernel
theorem dX7_divided_21 : decode cX7_divided 21 = .ok (.invokevirtual 241, 3) := by decide +kernel
theorem dX7_divided_24 : decode cX7_divided 24 = .ok (.if_icmp .ge 14, 3) := by decide +kernel
theorem dX7_divided_27 : decode cX7_divided 27 = .ok (.aload_n 0, 1) := by decide +kernel
theorem dX7_divided_28 : decode cX7_divided 28 = .ok (.getfield 36, 3) := by decide +kernel
theorem dX7_divided_31 : decode cX7_divided 31 = .ok (.iload_n 1, 1) := by decide +kernel
theorem dX7_divided_32 : decode cX7_divided 32 = .ok (.invokevirtual 249, 3) := by decide +kernel
theorem dX7_divided_35 : decode cX7_divided 35 = .ok (.goto 4, 3) := by decide +kernel
theorem dX7_divided_38 : decode cX7_divided 38 = .ok (.iconst (-1), 1) := by decide +kernel
theorem dX7_divided_39 : decode cX7_divided 39 = .ok (.ireturn, 1) := by decide +kernel
theorem dX7_leastGap_0 : decode cX7_leastGap 0 = .ok (.iload_n 1, 1) := by decide +kernel
theorem dX7_leastGap_1 : decode cX7_leastGap 1 = .ok (.ifCond .lt 8, 3) := by decide +kernel
theorem dX7_leastGap_4 : decode cX7_leastGap 4 = .ok (.iload_n 1, 1) := by decide +kernel
theorem dX7_leastGap_5 : decode cX7_leastGap 5 = .ok (.iconst 4, 1) := by decide +kernel
theorem dX7_leastGap_6 : decode cX7_leastGap 6 = .ok (.if_icmp .le 14, 3) := by decide +kernel
theorem dX7_leastGap_9 : decode cX7_leastGap 9 = .ok (.new 50, 3) := by decide +kernel
theorem dX7_leastGap_12 : decode cX7_leastGap 12 = .ok (.dup, 1) := by decide +kernel
theorem dX7_leastGap_13 : decode cX7_leastGap 13 = .ok (.ldc_w 279, 3) := by decide +kernel
theorem dX7_leastGap_16 : decode cX7_leastGap 16 = .ok (.invokespecial 54, 3) := by decide +kernel
theorem dX7_leastGap_19 : decode cX7_leastGap 19 = .ok (.athrow, 1) := by decide +kernel
theorem dX7_leastGap_20 : decode cX7_leastGap 20 = .ok (.aload_n 0, 1) := by decide +kernel
theorem dX7_leastGap_21 : decode cX7_leastGap 21 = .ok (.getfield 36, 3) := by decide +kernel
theorem dX7_leastGap_24 : decode cX7_leastGap 24 = .ok (.aload_n 0, 1) := by decide +kernel
theorem dX7_leastGap_25 : decode cX7_leastGap 25 = .ok (.getfield 19, 3) := by decide +kernel
theorem dX7_leastGap_28 : decode cX7_leastGap 28 = .ok (.aload_n 0, 1) := by decide +kernel
theorem dX7_leastGap_29 : decode cX7_leastGap 29 = .ok (.getfield 19, 3) := by decide +kernel
theorem dX7_leastGap_32 : decode cX7_leastGap 32 = .ok (.getfield 93, 3) := by decide +kernel
theorem dX7_leastGap_35 : decode cX7_leastGap 35 = .ok (.invokevirtual 270, 3) := by decide +kernel
theorem dX7_leastGap_38 : decode cX7_leastGap 38 = .ok (.aload_n 0, 1) := by decide +kernel
theorem dX7_leastGap_39 : decode cX7_leastGap 39 = .ok (.getfield 36, 3) := by decide +kernel
theorem dX7_leastGap_42 : decode cX7_leastGap 42 = .ok (.iload_n 1, 1) := by decide +kernel
theorem dX7_leastGap_43 : decode cX7_leastGap 43 = .ok (.invokevirtual 281, 3) := by decide +kernel
theorem dX7_leastGap_46 : decode cX7_leastGap 46 = .ok (.ireturn, 1) := by decide +kernel
theorem dX7_bestBreak_0 : decode cX7_bestBreak 0 = .ok (.iconst (-1), 1) := by decide +kernel
theorem dX7_bestBreak_1 : decode cX7_bestBreak 1 = .ok (.istore_n 1, 1) := by decide +kernel
theorem dX7_bestBreak_2 : decode cX7_bestBreak 2 = .ok (.bipush 6, 2) := by decide +kernel
theorem dX7_bestBreak_4 : decode cX7_bestBreak 4 = .ok (.istore_n 2, 1) := by decide +kernel
theorem dX7_bestBreak_5 : decode cX7_bestBreak 5 = .ok (.iconst 0, 1) := by decide +kernel
theorem dX7_bestBreak_6 : decode cX7_bestBreak 6 = .ok (.istore_n 3, 1) := by decide +kernel
theorem dX7_bestBreak_7 : decode cX7_bestBreak 7 = .ok (.iload_n 3, 1) := by decide +kernel
theorem dX7_bestBreak_8 : decode cX7_bestBreak 8 = .ok (.aload_n 0, 1) := by decide +kernel
theorem dX7_bestBreak_9 : decode cX7_bestBreak 9 = .ok (.getfield 19, 3) := by decide +kernel
theorem dX7_bestBreak_12 : decode cX7_bestBreak 12 = .ok (.getfield 90, 3) := by decide +kernel
theorem dX7_bestBreak_15 : decode cX7_bestBreak 15 = .ok (.if_icmp .ge 44, 3) := by decide +kernel
theorem dX7_bestBreak_18 : decode cX7_bestBreak 18 = .ok (.aload_n 0, 1) := by decide +kernel
theorem dX7_bestBreak_19 : decode cX7_bestBreak 19 = .ok (.getfield 36, 3) := by decide +kernel
theorem dX7_bestBreak_22 : decode cX7_bestBreak 22 = .ok (.aload_n 0, 1) := by decide +kernel
theorem dX7_bestBreak_23 : decode cX7_bestBreak 23 = .ok (.getfield 19, 3) := by decide +kernel
theorem dX7_bestBreak_26 : decode cX7_bestBreak 26 = .ok (.iload_n 3, 1) := by decide +kernel
theorem dX7_bestBreak_27 : decode cX7_bestBreak 27 = .ok (.invokevirtual 270, 3) := by decide +kernel
theorem dX7_bestBreak_30 : decode cX7_bestBreak 30 = .ok (.aload_n 0, 1) := by decide +kernel
theorem dX7_bestBreak_31 : decode cX7_bestBreak 31 = .ok (.getfield 36, 3) := by decide +kernel
theorem dX7_bestBreak_34 : decode cX7_bestBreak 34 = .ok (.iload_n 2, 1) := by decide +kernel
theorem dX7_bestBreak_35 : decode cX7_bestBreak 35 = .ok (.invokevirtual 284, 3) := by decide +kernel
theorem dX7_bestBreak_38 : decode cX7_bestBreak 38 = .ok (.istore 4, 2) := by decide +kernel
theorem dX7_bestBreak_40 : decode cX7_bestBreak 40 = .ok (.iload 4, 2) := by decide +kernel
theorem dX7_bestBreak_42 : decode cX7_bestBreak 42 = .ok (.iconst (-1), 1) := by decide +kernel
theorem dX7_bestBreak_43 : decode cX7_bestBreak 43 = .ok (.if_icmp .eq 10, 3) := by decide +kernel
theorem dX7_bestBreak_46 : decode cX7_bestBreak 46 = .ok (.iload_n 3, 1) := by decide +kernel
theorem dX7_bestBreak_47 : decode cX7_bestBreak 47 = .ok (.istore_n 1, 1) := by decide +kernel
theorem dX7_bestBreak_48 : decode cX7_bestBreak 48 = .ok (.iload 4, 2) := by decide +kernel
theorem dX7_bestBreak_50 : decode cX7_bestBreak 50 = .ok (.iconst 1, 1) := by decide +kernel
theorem dX7_bestBreak_51 : decode cX7_bestBreak 51 = .ok (.isub, 1) := by decide +kernel
theorem dX7_bestBreak_52 : decode cX7_bestBreak 52 = .ok (.istore_n 2, 1) := by decide +kernel
theorem dX7_bestBreak_53 : decode cX7_bestBreak 53 = .ok (.iinc 3 1, 3) := by decide +kernel
theorem dX7_bestBreak_56 : decode cX7_bestBreak 56 = .ok (.goto (-49), 3) := by decide +kernel
theorem dX7_bestBreak_59 : decode cX7_bestBreak 59 = .ok (.iload_n 1, 1) := by decide +kernel
theorem dX7_bestBreak_60 : decode cX7_bestBreak 60 = .ok (.ireturn, 1) := by decide +kernel
theorem dX7_bestRun_0 : decode cX7_bestRun 0 = .ok (.iconst (-1), 1) := by decide +kernel
theorem dX7_bestRun_1 : decode cX7_bestRun 1 = .ok (.istore_n 1, 1) := by decide +kernel
theorem dX7_bestRun_2 : decode cX7_bestRun 2 = .ok (.iconst 0, 1) := by decide +kernel
theorem dX7_bestRun_3 : decode cX7_bestRun 3 = .ok (.istore_n 2, 1) := by decide +kernel
theorem dX7_bestRun_4 : decode cX7_bestRun 4 = .ok (.iconst 0, 1) := by decide +kernel
theorem dX7_bestRun_5 : decode cX7_bestRun 5 = .ok (.istore_n 3, 1) := by decide +kernel
theorem dX7_bestRun_6 : decode cX7_bestRun 6 = .ok (.iload_n 3, 1) := by decide +kernel
theorem dX7_bestRun_7 : decode cX7_bestRun 7 = .ok (.aload_n 0, 1) := by decide +kernel
theorem dX7_bestRun_8 : decode cX7_bestRun 8 = .ok (.getfield 19, 3) := by decide +kernel
theorem dX7_bestRun_11 : decode cX7_bestRun 11 = .ok (.invokevirtual 99, 3) := by decide +kernel
theorem dX7_bestRun_14 : decode cX7_bestRun 14 = .ok (.if_icmp .ge 50, 3) := by decide +kernel
theorem dX7_bestRun_17 : decode cX7_bestRun 17 = .ok (.aload_n 0, 1) := by decide +kernel
theorem dX7_bestRun_18 : decode cX7_bestRun 18 = .ok (.getfield 19, 3) := by decide +kernel
theorem dX7_bestRun_21 : decode cX7_bestRun 21 = .ok (.iload_n 3, 1) := by decide +kernel
theorem dX7_bestRun_22 : decode cX7_bestRun 22 = .ok (.invokevirtual 230, 3) := by decide +kernel
theorem dX7_bestRun_25 : decode cX7_bestRun 25 = .ok (.ifCond .ne 33, 3) := by decide +kernel
theorem dX7_bestRun_28 : decode cX7_bestRun 28 = .ok (.aload_n 0, 1) := by decide +kernel
theorem dX7_bestRun_29 : decode cX7_bestRun 29 = .ok (.iload_n 3, 1) := by decide +kernel
theorem dX7_bestRun_30 : decode cX7_bestRun 30 = .ok (.aload_n 0, 1) := by decide +kernel
theorem dX7_bestRun_31 : decode cX7_bestRun 31 = .ok (.getfield 19, 3) := by decide +kernel
theorem dX7_bestRun_34 : decode cX7_bestRun 34 = .ok (.getfield 109, 3) := by decide +kernel
theorem dX7_bestRun_37 : decode cX7_bestRun 37 = .ok (.invokevirtual 287, 3) := by decide +kernel
theorem dX7_bestRun_40 : decode cX7_bestRun 40 = .ok (.istore 4, 2) := by decide +kernel
theorem dX7_bestRun_42 : decode cX7_bestRun 42 = .ok (.iload_n 1, 1) := by decide +kernel
theorem dX7_bestRun_43 : decode cX7_bestRun 43 = .ok (.iconst (-1), 1) := by decide +kernel
theorem dX7_bestRun_44 : decode cX7_bestRun 44 = .ok (.if_icmp .eq 9, 3) := by decide +kernel
theorem dX7_bestRun_47 : decode cX7_bestRun 47 = .ok (.iload 4, 2) := by decide +kernel
theorem dX7_bestRun_49 : decode cX7_bestRun 49 = .ok (.iload_n 2, 1) := by decide +kernel
theorem dX7_bestRun_50 : decode cX7_bestRun 50 = .ok (.if_icmp .ge 8, 3) := by decide +kernel
theorem dX7_bestRun_53 : decode cX7_bestRun 53 = .ok (.iload 4, 2) := by decide +kernel
theorem dX7_bestRun_55 : decode cX7_bestRun 55 = .ok (.istore_n 2, 1) := by decide +kernel
theorem dX7_bestRun_56 : decode cX7_bestRun 56 = .ok (.iload_n 3, 1) := by decide +kernel
theorem dX7_bestRun_57 : decode cX7_bestRun 57 = .ok (.istore_n 1, 1) := by decide +kernel
theorem dX7_bestRun_58 : decode cX7_bestRun 58 = .ok (.iinc 3 1, 3) := by decide +kernel
theorem dX7_bestRun_61 : decode cX7_bestRun 61 = .ok (.goto (-55), 3) := by decide +kernel
theorem dX7_bestRun_64 : decode cX7_bestRun 64 = .ok (.iload_n 1, 1) := by decide +kernel
theorem dX7_bestRun_65 : decode cX7_bestRun 65 = .ok (.ireturn, 1) := by decide +kernel
theorem dX7_ifGiven_0 : decode cX7_ifGiven 0 = .ok (.aload_n 0, 1) := by decide +kernel
theorem dX7_ifGiven_1 : decode cX7_ifGiven 1 = .ok (.getfield 19, 3) := by decide +kernel
theorem dX7_ifGiven_4 : decode cX7_ifGiven 4 = .ok (.iload_n 1, 1) := by decide +kernel
theorem dX7_ifGiven_5 : decode cX7_ifGiven 5 = .ok (.invokevirtual 163, 3) := by decide +kernel
theorem dX7_ifGiven_8 : decode cX7_ifGiven 8 = .ok (.ifCond .ne 13, 3) := by decide +kernel
theorem dX7_ifGiven_11 : decode cX7_ifGiven 11 = .ok (.new 127, 3) := by decide +kernel
theorem dX7_ifGiven_14 : decode cX7_ifGiven 14 = .ok (.dup, 1) := by decide +kernel
theorem dX7_ifGiven_15 : decode cX7_ifGiven 15 = .ok (.ldc 166, 2) := by decide +kernel
theorem dX7_ifGiven_17 : decode cX7_ifGiven 17 = .ok (.invokespecial 131, 3) := by decide +kernel
theorem dX7_ifGiven_20 : decode cX7_ifGiven 20 = .ok (.athrow, 1) := by decide +kernel
theorem dX7_ifGiven_21 : decode cX7_ifGiven 21 = .ok (.iload_n 2, 1) := by decide +kernel
theorem dX7_ifGiven_22 : decode cX7_ifGiven 22 = .ok (.invokestatic 222, 3) := by decide +kernel
theorem dX7_ifGiven_25 : decode cX7_ifGiven 25 = .ok (.ifCond .ne 13, 3) := by decide +kernel
theorem dX7_ifGiven_28 : decode cX7_ifGiven 28 = .ok (.new 50, 3) := by decide +kernel
theorem dX7_ifGiven_31 : decode cX7_ifGiven 31 = .ok (.dup, 1) := by decide +kernel
theorem dX7_ifGiven_32 : decode cX7_ifGiven 32 = .ok (.ldc 225, 2) := by decide +kernel
theorem dX7_ifGiven_34 : decode cX7_ifGiven 34 = .ok (.invokespecial 54, 3) := by decide +kernel
theorem dX7_ifGiven_37 : decode cX7_ifGiven 37 = .ok (.athrow, 1) := by decide +kernel
theorem dX7_ifGiven_38 : decode cX7_ifGiven 38 = .ok (.aload_n 0, 1) := by decide +kernel
theorem dX7_ifGiven_39 : decode cX7_ifGiven 39 = .ok (.iload_n 1, 1) := by decide +kernel
theorem dX7_ifGiven_40 : decode cX7_ifGiven 40 = .ok (.iload_n 2, 1) := by decide +kernel
theorem dX7_ifGiven_41 : decode cX7_ifGiven 41 = .ok (.invokevirtual 287, 3) := by decide +kernel
theorem dX7_ifGiven_44 : decode cX7_ifGiven 44 = .ok (.ireturn, 1) := by decide +kernel
theorem dX7_runScript_0 : decode cX7_runScript 0 = .ok (.iload_n 1, 1) := by decide +kernel
theorem dX7_runScript_1 : decode cX7_runScript 1 = .ok (.iconst 1, 1) := by decide +kernel
theorem dX7_runScript_2 : decode cX7_runScript 2 = .ok (.if_icmp .lt 8, 3) := by decide +kernel
theorem dX7_runScript_5 : decode cX7_runScript 5 = .ok (.iload_n 1, 1) := by decide +kernel
theorem dX7_runScript_6 : decode cX7_runScript 6 = .ok (.iconst 3, 1) := by decide +kernel
theorem dX7_runScript_7 : decode cX7_runScript 7 = .ok (.if_icmp .le 14, 3) := by decide +kernel
theorem dX7_runScript_10 : decode cX7_runScript 10 = .ok (.new 50, 3) := by decide +kernel
theorem dX7_runScript_13 : decode cX7_runScript 13 = .ok (.dup, 1) := by decide +kernel
theorem dX7_runScript_14 : decode cX7_runScript 14 = .ok (.ldc_w 290, 3) := by decide +kernel
theorem dX7_runScript_17 : decode cX7_runScript 17 = .ok (.invokespecial 54, 3) := by decide +kernel
theorem dX7_runScript_20 : decode cX7_runScript 20 = .ok (.athrow, 1) := by decide +kernel
theorem dX7_runScript_21 : decode cX7_runScript 21 = .ok (.lload_n 2, 1) := by decide +kernel
theorem dX7_runScript_22 : decode cX7_runScript 22 = .ok (.lconst 0, 1) := by decide +kernel
theorem dX7_runScript_23 : decode cX7_runScript 23 = .ok (.lcmp, 1) := by decide +kernel
theorem dX7_runScript_24 : decode cX7_runScript 24 = .ok (.ifCond .lt 13, 3) := by decide +kernel
theorem dX7_runScript_27 : decode cX7_runScript 27 = .ok (.lload_n 2, 1) := by decide +kernel
theorem dX7_runScript_28 : decode cX7_runScript 28 = .ok (.iload_n 1, 1) := by decide +kernel
theorem dX7_runScript_29 : decode cX7_runScript 29 = .ok (.invokestatic 292, 3) := by decide +kernel
theorem dX7_runScript_32 : decode cX7_runScript 32 = .ok (.lconst 0, 1) := by decide +kernel
theorem dX7_runScript_33 : decode cX7_runScript 33 = .ok (.lcmp, 1) := by decide +kernel
theorem dX7_runScript_34 : decode cX7_runScript 34 = .ok (.ifCond .eq 14, 3) := by decide +kernel
theorem dX7_runScript_37 : decode cX7_runScript 37 = .ok (.new 50, 3) := by decide +kernel
theorem dX7_runScript_40 : decode cX7_runScript 40 = .ok (.dup, 1) := by decide +kernel
theorem dX7_runScript_41 : decode cX7_runScript 41 = .ok (.ldc_w 298, 3) := by decide +kernel
theorem dX7_runScript_44 : decode cX7_runScript 44 = .ok (.invokespecial 54, 3) := by decide +kernel
theorem dX7_runScript_47 : decode cX7_runScript 47 = .ok (.athrow, 1) := by decide +kernel
theorem dX7_runScript_48 : decode cX7_runScript 48 = .ok (.aload_n 0, 1) := by decide +kernel
theorem dX7_runScript_49 : decode cX7_runScript 49 = .ok (.getfield 23, 3) := by decide +kernel
theorem dX7_runScript_52 : decode cX7_runScript 52 = .ok (.aload_n 0, 1) := by decide +kernel
theorem dX7_runScript_53 : decode cX7_runScript 53 = .ok (.getfield 19, 3) := by decide +kernel
theorem dX7_runScript_56 : decode cX7_runScript 56 = .ok (.invokevirtual 300, 3) := by decide +kernel
theorem dX7_runScript_59 : decode cX7_runScript 59 = .ok (.iconst 0, 1) := by decide +kernel
theorem dX7_runScript_60 : decode cX7_runScript 60 = .ok (.istore 4, 2) := by decide +kernel
theorem dX7_runScript_62 : decode cX7_runScript 62 = .ok (.iload 4, 2) := by decide +kernel
theorem dX7_runScript_64 : decode cX7_runScript 64 = .ok (.iload_n 1, 1) := by decide +kernel
theorem dX7_runScript_65 : decode cX7_runScript 65 = .ok (.if_icmp .ge 45, 3) := by decide +kernel
theorem dX7_runScript_68 : decode cX7_runScript 68 = .ok (.lload_n 2, 1) := by decide +kernel
theorem dX7_runScript_69 : decode cX7_runScript 69 = .ok (.iload_n 1, 1) := by decide +kernel
theorem dX7_runScript_70 : decode cX7_runScript 70 = .ok (.iconst 1, 1) := by decide +kernel
theorem dX7_runScript_71 : decode cX7_runScript 71 = .ok (.isub, 1) := by decide +kernel
theorem dX7_runScript_72 : decode cX7_runScript 72 = .ok (.iload 4, 2) := by decide +kernel
theorem dX7_runScript_74 : decode cX7_runScript 74 = .ok (.isub, 1) := by decide +kernel
theorem dX7_runScript_75 : decode cX7_runScript 75 = .ok (.invokestatic 292, 3) := by decide +kernel
theorem dX7_runScript_78 : decode cX7_runScript 78 = .ok (.ldc2_w 303, 3) := by decide +kernel
theorem dX7_runScript_81 : decode cX7_runScript 81 = .ok (.lrem, 1) := by decide +kernel
theorem dX7_runScript_82 : decode cX7_runScript 82 = .ok (.l2i, 1) := by decide +kernel
theorem dX7_runScript_83 : decode cX7_runScript 83 = .ok (.istore 5, 2) := by decide +kernel
theorem dX7_runScript_85 : decode cX7_runScript 85 = .ok (.iload 5, 2) := by decide +kernel
theorem dX7_runScript_87 : decode cX7_runScript 87 = .ok (.aload_n 0, 1) := by decide +kernel
theorem dX7_runScript_88 : decode cX7_runScript 88 = .ok (.getfield 23, 3) := by decide +kernel
theorem dX7_runScript_91 : decode cX7_runScript 91 = .ok (.aload_n 0, 1) := by decide +kernel
theorem dX7_runScript_92 : decode cX7_runScript 92 = .ok (.getfield 36, 3) := by decide +kernel
theorem dX7_runScript_95 : decode cX7_runScript 95 = .ok (.invokestatic 305, 3) := by decide +kernel
theorem dX7_runScript_98 : decode cX7_runScript 98 = .ok (.ifCond .ne 6, 3) := by decide +kernel
theorem dX7_runScript_101 : decode cX7_runScript 101 = .ok (.iload 4, 2) := by decide +kernel
theorem dX7_runScript_103 : decode cX7_runScript 103 = .ok (.ireturn, 1) := by decide +kernel
theorem dX7_runScript_104 : decode cX7_runScript 104 = .ok (.iinc 4 1, 3) := by decide +kernel
theorem dX7_runScript_107 : decode cX7_runScript 107 = .ok (.goto (-45), 3) := by decide +kernel
theorem dX7_runScript_110 : decode cX7_runScript 110 = .ok (.iconst (-1), 1) := by decide +kernel
theorem dX7_runScript_111 : decode cX7_runScript 111 = .ok (.ireturn, 1) := by decide +kernel
theorem dX7_simulate_0 : decode cX7_simulate 0 = .ok (.iload_n 3, 1) := by decide +kernel
theorem dX7_simulate_1 : decode cX7_simulate 1 = .ok (.iconst 1, 1) := by decide +kernel
theorem dX7_simulate_2 : decode cX7_simulate 2 = .ok (.if_icmp .lt 9, 3) := by decide +kernel
theorem dX7_simulate_5 : decode cX7_simulate 5 = .ok (.iload_n 3, 1) := by decide +kernel
theorem dX7_simulate_6 : decode cX7_simulate 6 = .ok (.bipush 60, 2) := by decide +kernel
theorem dX7_simulate_8 : decode cX7_simulate 8 = .ok (.if_icmp .le 14, 3) := by decide +kernel
theorem dX7_simulate_11 : decode cX7_simulate 11 = .ok (.new 50, 3) := by decide +kernel
theorem dX7_simulate_14 : decode cX7_simulate 14 = .ok (.dup, 1) := by decide +kernel
theorem dX7_simulate_15 : decode cX7_simulate 15 = .ok (.ldc_w 309, 3) := by decide +kernel
theorem dX7_simulate_18 : decode cX7_simulate 18 = .ok (.invokespecial 54, 3) := by decide +kernel
theorem dX7_simulate_21 : decode cX7_simulate 21 = .ok (.athrow, 1) := by decide +kernel
theorem dX7_simulate_22 : decode cX7_simulate 22 = .ok (.aload_n 0, 1) := by decide +kernel
theorem dX7_simulate_23 : decode cX7_simulate 23 = .ok (.getfield 23, 3) := by decide +kernel
theorem dX7_simulate_26 : decode cX7_simulate 26 = .ok (.aload_n 0, 1) := by decide +kernel
theorem dX7_simulate_27 : decode cX7_simulate 27 = .ok (.getfield 19, 3) := by decide +kernel
theorem dX7_simulate_30 : decode cX7_simulate 30 = .ok (.invokevirtual 300, 3) := by decide +kernel
theorem dX7_simulate_33 : decode cX7_simulate 33 = .ok (.lload_n 1, 1) := by decide +kernel
theorem dX7_simulate_34 : decode cX7_simulate 34 = .ok (.iload_n 3, 1) := by decide +kernel
theorem dX7_simulate_35 : decode cX7_simulate 35 = .ok (.aload_n 0, 1) := by decide +kernel
theorem dX7_simulate_36 : decode cX7_simulate 36 = .ok (.getfield 23, 3) := by decide +kernel
theorem dX7_simulate_39 : decode cX7_simulate 39 = .ok (.invokestatic 311, 3) := by decide +kernel
theorem dX7_simulate_42 : decode cX7_simulate 42 = .ok (.sipush 10000, 3) := by decide +kernel
theorem dX7_simulate_45 : decode cX7_simulate 45 = .ok (.aload_n 0, 1) := by decide +kernel
theorem dX7_simulate_46 : decode cX7_simulate 46 = .ok (.getfield 23, 3) := by decide +kernel
theorem dX7_simulate_49 : decode cX7_simulate 49 = .ok (.getfield 90, 3) := by decide +kernel
theorem dX7_simulate_52 : decode cX7_simulate 52 = .ok (.imul, 1) := by decide +kernel
theorem dX7_simulate_53 : decode cX7_simulate 53 = .ok (.bipush 100, 2) := by decide +kernel
theorem dX7_simulate_55 : decode cX7_simulate 55 = .ok (.aload_n 0, 1) := by decide +kernel
theorem dX7_simulate_56 : decode cX7_simulate 56 = .ok (.getfield 23, 3) := by decide +kernel
theorem dX7_simulate_59 : decode cX7_simulate 59 = .ok (.invokevirtual 99, 3) := by decide +kernel
theorem dX7_simulate_62 : decode cX7_simulate 62 = .ok (.imul, 1) := by decide +kernel
theorem dX7_simulate_63 : decode cX7_simulate 63 = .ok (.iadd, 1) := by decide +kernel
theorem dX7_simulate_64 : decode cX7_simulate 64 = .ok (.aload_n 0, 1) := by decide +kernel
theorem dX7_simulate_65 : decode cX7_simulate 65 = .ok (.getfield 23, 3) := by decide +kernel
theorem dX7_simulate_68 : decode cX7_simulate 68 = .ok (.invokevirtual 102, 3) := by decide +kernel
theorem dX7_simulate_71 : decode cX7_simulate 71 = .ok (.bipush 99, 2) := by decide +kernel
theorem dX7_simulate_73 : decode cX7_simulate 73 = .ok (.invokestatic 317, 3) := by decide +kernel
theorem dX7_simulate_76 : decode cX7_simulate 76 = .ok (.iadd, 1) := by decide +kernel
theorem dX7_simulate_77 : decode cX7_simulate 77 = .ok (.ireturn, 1) := by decide +kernel
theorem dX7_save_0 : decode cX7_save 0 = .ok (.iload_n 1, 1) := by decide +kernel
theorem dX7_save_1 : decode cX7_save 1 = .ok (.ifCond .lt 8, 3) := by decide +kernel
theorem dX7_save_4 : decode cX7_save 4 = .ok (.iload_n 1, 1) := by decide +kernel
theorem dX7_save_5 : decode cX7_save 5 = .ok (.iconst 1, 1) := by decide +kernel
theorem dX7_save_6 : decode cX7_save 6 = .ok (.if_icmp .le 14, 3) := by decide +kernel
theorem dX7_save_9 : decode cX7_save 9 = .ok (.new 127, 3) := by decide +kernel
theorem dX7_save_12 : decode cX7_save 12 = .ok (.dup, 1) := by decide +kernel
theorem dX7_save_13 : decode cX7_save 13 = .ok (.ldc_w 322, 3) := by decide +kernel
theorem dX7_save_16 : decode cX7_save 16 = .ok (.invokespecial 131, 3) := by decide +kernel
theorem dX7_save_19 : decode cX7_save 19 = .ok (.athrow, 1) := by decide +kernel
theorem dX7_save_20 : decode cX7_save 20 = .ok (.iload_n 1, 1) := by decide +kernel
theorem dX7_save_21 : decode cX7_save 21 = .ok (.ifCond .ne 10, 3) := by decide +kernel
theorem dX7_save_24 : decode cX7_save 24 = .ok (.aload_n 0, 1) := by decide +kernel
theorem dX7_save_25 : decode cX7_save 25 = .ok (.getfield 43, 3) := by decide +kernel
theorem dX7_save_28 : decode cX7_save 28 = .ok (.goto 7, 3) := by decide +kernel
theorem dX7_save_31 : decode cX7_save 31 = .ok (.aload_n 0, 1) := by decide +kernel
theorem dX7_save_32 : decode cX7_save 32 = .ok (.getfield 47, 3) := by decide +kernel
theorem dX7_save_35 : decode cX7_save 35 = .ok (.astore_n 2, 1) := by decide +kernel
theorem dX7_save_36 : decode cX7_save 36 = .ok (.aload_n 2, 1) := by decide +kernel
theorem dX7_save_37 : decode cX7_save 37 = .ok (.getfield 324, 3) := by decide +kernel
theorem dX7_save_40 : decode cX7_save 40 = .ok (.aload_n 0, 1) := by decide +kernel
theorem dX7_save_41 : decode cX7_save 41 = .ok (.getfield 19, 3) := by decide +kernel
theorem dX7_save_44 : decode cX7_save 44 = .ok (.invokevirtual 300, 3) := by decide +kernel
theorem dX7_save_47 : decode cX7_save 47 = .ok (.aload_n 2, 1) := by decide +kernel
theorem dX7_save_48 : decode cX7_save 48 = .ok (.iconst 1, 1) := by decide +kernel
theorem dX7_save_49 : decode cX7_save 49 = .ok (.putfield 82, 3) := by decide +kernel
theorem dX7_save_52 : decode cX7_save 52 = .ok (.aload_n 0, 1) := by decide +kernel
theorem dX7_save_53 : decode cX7_save 53 = .ok (.getfield 19, 3) := by decide +kernel
theorem dX7_save_56 : decode cX7_save 56 = .ok (.getfield 90, 3) := by decide +kernel
theorem dX7_save_59 : decode cX7_save 59 = .ok (.ireturn, 1) := by decide +kernel
theorem dX7_restore_0 : decode cX7_restore 0 = .ok (.iload_n 1, 1) := by decide +kernel
theorem dX7_restore_1 : decode cX7_restore 1 = .ok (.ifCond .lt 8, 3) := by decide +kernel
theorem dX7_restore_4 : decode cX7_restore 4 = .ok (.iload_n 1, 1) := by decide +kernel
theorem dX7_restore_5 : decode cX7_restore 5 = .ok (.iconst 1, 1) := by decide +kernel
theorem dX7_restore_6 : decode cX7_restore 6 = .ok (.if_icmp .le 14, 3) := by decide +kernel
theorem dX7_restore_9 : decode cX7_restore 9 = .ok (.new 127, 3) := by decide +kernel
theorem dX7_restore_12 : decode cX7_restore 12 = .ok (.dup, 1) := by decide +kernel
theorem dX7_restore_13 : decode cX7_restore 13 = .ok (.ldc_w 322, 3) := by decide +kernel
theorem dX7_restore_16 : decode cX7_restore 16 = .ok (.invokespecial 131, 3) := by decide +kernel
theorem dX7_restore_19 : decode cX7_restore 19 = .ok (.athrow, 1) := by decide +kernel
theorem dX7_restore_20 : decode cX7_restore 20 = .ok (.iload_n 1, 1) := by decide +kernel
theorem dX7_restore_21 : decode cX7_restore 21 = .ok (.ifCond .ne 10, 3) := by decide +kernel
theorem dX7_restore_24 : decode cX7_restore 24 = .ok (.aload_n 0, 1) := by decide +kernel
theorem dX7_restore_25 : decode cX7_restore 25 = .ok (.getfield 43, 3) := by decide +kernel
theorem dX7_restore_28 : decode cX7_restore 28 = .ok (.goto 7, 3) := by decide +kernel
theorem dX7_restore_31 : decode cX7_restore 31 = .ok (.aload_n 0, 1) := by decide +kernel
theorem dX7_restore_32 : decode cX7_restore 32 = .ok (.getfield 47, 3) := by decide +kernel
theorem dX7_restore_35 : decode cX7_restore 35 = .ok (.astore_n 2, 1) := by decide +kernel
theorem dX7_restore_36 : decode cX7_restore 36 = .ok (.aload_n 2, 1) := by decide +kernel
theorem dX7_restore_37 : decode cX7_restore 37 = .ok (.getfield 82, 3) := by decide +kernel
theorem dX7_restore_40 : decode cX7_restore 40 = .ok (.ifCond .ne 14, 3) := by decide +kernel
theorem dX7_restore_43 : decode cX7_restore 43 = .ok (.new 61, 3) := by decide +kernel
theorem dX7_restore_46 : decode cX7_restore 46 = .ok (.dup, 1) := by decide +kernel
theorem dX7_restore_47 : decode cX7_restore 47 = .ok (.ldc_w 327, 3) := by decide +kernel
theorem dX7_restore_50 : decode cX7_restore 50 = .ok (.invokespecial 65, 3) := by decide +kernel
theorem dX7_restore_53 : decode cX7_restore 53 = .ok (.athrow, 1) := by decide +kernel
theorem dX7_restore_54 : decode cX7_restore 54 = .ok (.aload_n 0, 1) := by decide +kernel
theorem dX7_restore_55 : decode cX7_restore 55 = .ok (.getfield 19, 3) := by decide +kernel
theorem dX7_restore_58 : decode cX7_restore 58 = .ok (.aload_n 2, 1) := by decide +kernel
theorem dX7_restore_59 : decode cX7_restore 59 = .ok (.getfield 324, 3) := by decide +kernel
theorem dX7_restore_62 : decode cX7_restore 62 = .ok (.invokevirtual 300, 3) := by decide +kernel
theorem dX7_restore_65 : decode cX7_restore 65 = .ok (.aload_n 0, 1) := by decide +kernel
theorem dX7_restore_66 : decode cX7_restore 66 = .ok (.getfield 29, 3) := by decide +kernel
theorem dX7_restore_69 : decode cX7_restore 69 = .ok (.invokevirtual 79, 3) := by decide +kernel
theorem dX7_restore_72 : decode cX7_restore 72 = .ok (.aload_n 0, 1) := by decide +kernel
theorem dX7_restore_73 : decode cX7_restore 73 = .ok (.getfield 19, 3) := by decide +kernel
theorem dX7_restore_76 : decode cX7_restore 76 = .ok (.getfield 90, 3) := by decide +kernel
theorem dX7_restore_79 : decode cX7_restore 79 = .ok (.ireturn, 1) := by decide +kernel
theorem dX7_fewestCutsOf_0 : decode cX7_fewestCutsOf 0 = .ok (.aload_n 0, 1) := by decide +kernel
theorem dX7_fewestCutsOf_1 : decode cX7_fewestCutsOf 1 = .ok (.getfield 36, 3) := by decide +kernel
theorem dX7_fewestCutsOf_4 : decode cX7_fewestCutsOf 4 = .ok (.aload_n 1, 1) := by decide +kernel
theorem dX7_fewestCutsOf_5 : decode cX7_fewestCutsOf 5 = .ok (.aload_n 1, 1) := by decide +kernel
theorem dX7_fewestCutsOf_6 : decode cX7_fewestCutsOf 6 = .ok (.getfield 93, 3) := by decide +kernel
theorem dX7_fewestCutsOf_9 : decode cX7_fewestCutsOf 9 = .ok (.invokevirtual 270, 3) := by decide +kernel
theorem dX7_fewestCutsOf_12 : decode cX7_fewestCutsOf 12 = .ok (.aload_n 0, 1) := by decide +kernel
theorem dX7_fewestCutsOf_13 : decode cX7_fewestCutsOf 13 = .ok (.getfield 36, 3) := by decide +kernel
theorem dX7_fewestCutsOf_16 : decode cX7_fewestCutsOf 16 = .ok (.bipush 6, 2) := by decide +kernel
theorem dX7_fewestCutsOf_18 : decode cX7_fewestCutsOf 18 = .ok (.invokevirtual 284, 3) := by decide +kernel
theorem dX7_fewestCutsOf_21 : decode cX7_fewestCutsOf 21 = .ok (.ireturn, 1) := by decide +kernel
theorem dX7_gapWith_0 : decode cX7_gapWith 0 = .ok (.aload_n 0, 1) := by decide +kernel
theorem dX7_gapWith_1 : decode cX7_gapWith 1 = .ok (.getfield 23, 3) := by decide +kernel
theorem dX7_gapWith_4 : decode cX7_gapWith 4 = .ok (.aload_n 0, 1) := by decide +kernel
theorem dX7_gapWith_5 : decode cX7_gapWith 5 = .ok (.getfield 19, 3) := by decide +kernel
theorem dX7_gapWith_8 : decode cX7_gapWith 8 = .ok (.invokevirtual 300, 3) := by decide +kernel
theorem dX7_gapWith_11 : decode cX7_gapWith 11 = .ok (.aload_n 0, 1) := by decide +kernel
theorem dX7_gapWith_12 : decode cX7_gapWith 12 = .ok (.getfield 23, 3) := by decide +kernel
theorem dX7_gapWith_15 : decode cX7_gapWith 15 = .ok (.iload_n 1, 1) := by decide +kernel
theorem dX7_gapWith_16 : decode cX7_gapWith 16 = .ok (.iload_n 2, 1) := by decide +kernel
theorem dX7_gapWith_17 : decode cX7_gapWith 17 = .ok (.invokevirtual 227, 3) := by decide +kernel
theorem dX7_gapWith_20 : decode cX7_gapWith 20 = .ok (.pop, 1) := by decide +kernel
theorem dX7_gapWith_21 : decode cX7_gapWith 21 = .ok (.aload_n 0, 1) := by decide +kernel
theorem dX7_gapWith_22 : decode cX7_gapWith 22 = .ok (.getfield 23, 3) := by decide +kernel
theorem dX7_gapWith_25 : decode cX7_gapWith 25 = .ok (.invokevirtual 102, 3) := by decide +kernel
theorem dX7_gapWith_28 : decode cX7_gapWith 28 = .ok (.ireturn, 1) := by decide +kernel
theorem dX7_isSister_0 : decode cX7_isSister 0 = .ok (.iload_n 0, 1) := by decide +kernel
theorem dX7_isSister_1 : decode cX7_isSister 1 = .ok (.ifCond .eq 8, 3) := by decide +kernel
theorem dX7_isSister_4 : decode cX7_isSister 4 = .ok (.iload_n 0, 1) := by decide +kernel
theorem dX7_isSister_5 : decode cX7_isSister 5 = .ok (.iconst 1, 1) := by decide +kernel
theorem dX7_isSister_6 : decode cX7_isSister 6 = .ok (.if_icmp .ne 7, 3) := by decide +kernel
theorem dX7_isSister_9 : decode cX7_isSister 9 = .ok (.iconst 1, 1) := by decide +kernel
theorem dX7_isSister_10 : decode cX7_isSister 10 = .ok (.goto 4, 3) := by decide +kernel
theorem dX7_isSister_13 : decode cX7_isSister 13 = .ok (.iconst 0, 1) := by decide +kernel
theorem dX7_isSister_14 : decode cX7_isSister 14 = .ok (.ireturn, 1) := by decide +kernel
theorem dX7_isOwner_0 : decode cX7_isOwner 0 = .ok (.iload_n 0, 1) := by decide +kernel
theorem dX7_isOwner_1 : decode cX7_isOwner 1 = .ok (.iconst (-1), 1) := by decide +kernel
theorem dX7_isOwner_2 : decode cX7_isOwner 2 = .ok (.if_icmp .eq 10, 3) := by decide +kernel
theorem dX7_isOwner_5 : decode cX7_isOwner 5 = .ok (.iload_n 0, 1) := by decide +kernel
theorem dX7_isOwner_6 : decode cX7_isOwner 6 = .ok (.invokestatic 177, 3) := by decide +kernel
theorem dX7_isOwner_9 : decode cX7_isOwner 9 = .ok (.ifCond .eq 7, 3) := by decide +kernel
theorem dX7_isOwner_12 : decode cX7_isOwner 12 = .ok (.iconst 1, 1) := by decide +kernel
theorem dX7_isOwner_13 : decode cX7_isOwner 13 = .ok (.goto 4, 3) := by decide +kernel
theorem dX7_isOwner_16 : decode cX7_isOwner 16 = .ok (.iconst 0, 1) := by decide +kernel
theorem dX7_isOwner_17 : decode cX7_isOwner 17 = .ok (.ireturn, 1) := by decide +kernel
theorem dX7_isKind_0 : decode cX7_isKind 0 = .ok (.iload_n 0, 1) := by decide +kernel
theorem dX7_isKind_1 : decode cX7_isKind 1 = .ok (.ifCond .lt 12, 3) := by decide +kernel
theorem dX7_isKind_4 : decode cX7_isKind 4 = .ok (.iload_n 0, 1) := by decide +kernel
theorem dX7_isKind_5 : decode cX7_isKind 5 = .ok (.iconst 4, 1) := by decide +kernel
theorem dX7_isKind_6 : decode cX7_isKind 6 = .ok (.if_icmp .ge 7, 3) := by decide +kernel
theorem dX7_isKind_9 : decode cX7_isKind 9 = .ok (.iconst 1, 1) := by decide +kernel
theorem dX7_isKind_10 : decode cX7_isKind 10 = .ok (.goto 4, 3) := by decide +kernel
theorem dX7_isKind_13 : decode cX7_isKind 13 = .ok (.iconst 0, 1) := by decide +kernel
theorem dX7_isKind_14 : decode cX7_isKind 14 = .ok (.ireturn, 1) := by decide +kernel
theorem dX7_isWeight_0 : decode cX7_isWeight 0 = .ok (.iload_n 0, 1) := by decide +kernel
theorem dX7_isWeight_1 : decode cX7_isWeight 1 = .ok (.iconst 1, 1) := by decide +kernel
theorem dX7_isWeight_2 : decode cX7_isWeight 2 = .ok (.if_icmp .lt 13, 3) := by decide +kernel
theorem dX7_isWeight_5 : decode cX7_isWeight 5 = .ok (.iload_n 0, 1) := by decide +kernel
theorem dX7_isWeight_6 : decode cX7_isWeight 6 = .ok (.bipush 9, 2) := by decide +kernel
theorem dX7_isWeight_8 : decode cX7_isWeight 8 = .ok (.if_icmp .gt 7, 3) := by decide +kernel
theorem dX7_isWeight_11 : decode cX7_isWeight 11 = .ok (.iconst 1, 1) := by decide +kernel
theorem dX7_isWeight_12 : decode cX7_isWeight 12 = .ok (.goto 4, 3) := by decide +kernel
theorem dX7_isWeight_15 : decode cX7_isWeight 15 = .ok (.iconst 0, 1) := by decide +kernel
theorem dX7_isWeight_16 : decode cX7_isWeight 16 = .ok (.ireturn, 1) := by decide +kernel
theorem dX7_isSetting_0 : decode cX7_isSetting 0 = .ok (.iload_n 0, 1) := by decide +kernel
theorem dX7_isSetting_1 : decode cX7_isSetting 1 = .ok (.ifCond .eq 8, 3) := by decide +kernel
theorem dX7_isSetting_4 : decode cX7_isSetting 4 = .ok (.iload_n 0, 1) := by decide +kernel
theorem dX7_isSetting_5 : decode cX7_isSetting 5 = .ok (.iconst 1, 1) := by decide +kernel
theorem dX7_isSetting_6 : decode cX7_isSetting 6 = .ok (.if_icmp .ne 7, 3) := by decide +kernel
theorem dX7_isSetting_9 : decode cX7_isSetting 9 = .ok (.iconst 1, 1) := by decide +kernel
theorem dX7_isSetting_10 : decode cX7_isSetting 10 = .ok (.goto 4, 3) := by decide +kernel
theorem dX7_isSetting_13 : decode cX7_isSetting 13 = .ok (.iconst 0, 1) := by decide +kernel
theorem dX7_isSetting_14 : decode cX7_isSetting 14 = .ok (.ireturn, 1) := by decide +kernel
theorem dX7_ownerFor_0 : decode cX7_ownerFor 0 = .ok (.iload_n 0, 1) := by decide +kernel
theorem dX7_ownerFor_1 : decode cX7_ownerFor 1 = .ok (.iconst 2, 1) := by decide +kernel
theorem dX7_ownerFor_2 : decode cX7_ownerFor 2 = .ok (.if_icmp .ne 7, 3) := by decide +kernel
theorem dX7_ownerFor_5 : decode cX7_ownerFor 5 = .ok (.iconst (-1), 1) := by decide +kernel
theorem dX7_ownerFor_6 : decode cX7_ownerFor 6 = .ok (.goto 4, 3) := by decide +kernel
theorem dX7_ownerFor_9 : decode cX7_ownerFor 9 = .ok (.iload_n 0, 1) := by decide +kernel
theorem dX7_ownerFor_10 : decode cX7_ownerFor 10 = .ok (.ireturn, 1) := by decide +kernel
end
section
theorem dX8_init_0 : decode cX8_init 0 = .ok (.aload_n 0, 1) := by decide +kernel
theorem dX8_init_1 : decode cX8_init 1 = .ok (.invokespecial 1, 3) := by decide +kernel
theorem dX8_init_4 : decode cX8_init 4 = .ok (.aload_n 0, 1) := by decide +kernel
theorem dX8_init_5 : decode cX8_init 5 = .ok (.bipush 120, 2) := by decide +kernel
theorem dX8_init_7 : decode cX8_init 7 = .ok (.newarray .int, 2) := by decide +kernel
theorem dX8_init_9 : decode cX8_init 9 = .ok (.putfield 7, 3) := by decide +kernel
theorem dX8_init_12 : decode cX8_init 12 = .ok (.aload_n 0, 1) := by decide +kernel
theorem dX8_init_13 : decode cX8_init 13 = .ok (.bipush 54, 2) := by decide +kernel
theorem dX8_init_15 : decode cX8_init 15 = .ok (.newarray .int, 2) := by decide +kernel
theorem dX8_init_17 : decode cX8_init 17 = .ok (.putfield 13, 3) := by decide +kernel
theorem dX8_init_20 : decode cX8_init 20 = .ok (.aload_n 0, 1) := by decide +kernel
theorem dX8_init_21 : decode cX8_init 21 = .ok (.bipush 54, 2) := by decide +kernel
theorem dX8_init_23 : decode cX8_init 23 = .ok (.newarray .int, 2) := by decide +kernel
theorem dX8_init_25 : decode cX8_init 25 = .ok (.putfield 16, 3) := by decide +kernel
theorem dX8_init_28 : decode cX8_init 28 = .ok (.aload_n 0, 1) := by decide +kernel
theorem dX8_init_29 : decode cX8_init 29 = .ok (.sipush 756, 3) := by decide +kernel
theorem dX8_init_32 : decode cX8_init 32 = .ok (.newarray .int, 2) := by decide +kernel
theorem dX8_init_34 : decode cX8_init 34 = .ok (.putfield 19, 3) := by decide +kernel
theorem dX8_init_37 : decode cX8_init 37 = .ok (.aload_n 0, 1) := by decide +kernel
theorem dX8_init_38 : decode cX8_init 38 = .ok (.bipush 108, 2) := by decide +kernel
theorem dX8_init_40 : decode cX8_init 40 = .ok (.newarray .int, 2) := by decide +kernel
theorem dX8_init_42 : decode cX8_init 42 = .ok (.putfield 22, 3) := by decide +kernel
theorem dX8_init_45 : decode cX8_init 45 = .ok (.aload_n 0, 1) := by decide +kernel
theorem dX8_init_46 : decode cX8_init 46 = .ok (.iconst 2, 1) := by decide +kernel
theorem dX8_init_47 : decode cX8_init 47 = .ok (.newarray .boolean, 2) := by decide +kernel
theorem dX8_init_49 : decode cX8_init 49 = .ok (.putfield 25, 3) := by decide +kernel
theorem dX8_init_52 : decode cX8_init 52 = .ok (.aload_n 0, 1) := by decide +kernel
theorem dX8_init_53 : decode cX8_init 53 = .ok (.bipush 68, 2) := by decide +kernel
theorem dX8_init_55 : decode cX8_init 55 = .ok (.newarray .int, 2) := by decide +kernel
theorem dX8_init_57 : decode cX8_init 57 = .ok (.putfield 29, 3) := by decide +kernel
theorem dX8_init_60 : decode cX8_init 60 = .ok (.aload_n 0, 1) := by decide +kernel
theorem dX8_init_61 : decode cX8_init 61 = .ok (.bipush 8, 2) := by decide +kernel
theorem dX8_init_63 : decode cX8_init 63 = .ok (.newarray .int, 2) := by decide +kernel
theorem dX8_init_65 : decode cX8_init 65 = .ok (.putfield 32, 3) := by decide +kernel
theorem dX8_init_68 : decode cX8_init 68 = .ok (.aload_n 0, 1) := by decide +kernel
theorem dX8_init_69 : decode cX8_init 69 = .ok (.getfield 13, 3) := by decide +kernel
theorem dX8_init_72 : decode cX8_init 72 = .ok (.invokestatic 35, 3) := by decide +kernel
theorem dX8_init_75 : decode cX8_init 75 = .ok (.return_, 1) := by decide +kernel
theorem dX8_thrown_0 : decode cX8_thrown 0 = .ok (.aload_n 0, 1) := by decide +kernel
theorem dX8_thrown_1 : decode cX8_thrown 1 = .ok (.getfield 39, 3) := by decide +kernel
theorem dX8_thrown_4 : decode cX8_thrown 4 = .ok (.ireturn, 1) := by decide +kernel
theorem dX8_refused_0 : decode cX8_refused 0 = .ok (.aload_n 0, 1) := by decide +kernel
theorem dX8_refused_1 : decode cX8_refused 1 = .ok (.iload_n 1, 1) := by decide +kernel
theorem dX8_refused_2 : decode cX8_refused 2 = .ok (.putfield 39, 3) := by decide +kernel
theorem dX8_refused_5 : decode cX8_refused 5 = .ok (.iload_n 1, 1) := by decide +kernel
theorem dX8_refused_6 : decode cX8_refused 6 = .ok (.ifCond .le 7, 3) := by decide +kernel
theorem dX8_refused_9 : decode cX8_refused 9 = .ok (.iconst 1, 1) := by decide +kernel
theorem dX8_refused_10 : decode cX8_refused 10 = .ok (.goto 4, 3) := by decide +kernel
theorem dX8_refused_13 : decode cX8_refused 13 = .ok (.iconst 0, 1) := by decide +kernel
theorem dX8_refused_14 : decode cX8_refused 14 = .ok (.ireturn, 1) := by decide +kernel
theorem dX8_in_0 : decode cX8_in 0 = .ok (.lload_n 0, 1) := by decide +kernel
theorem dX8_in_1 : decode cX8_in 1 = .ok (.lload_n 2, 1) := by decide +kernel
theorem dX8_in_2 : decode cX8_in 2 = .ok (.lcmp, 1) := by decide +kernel
theorem dX8_in_3 : decode cX8_in 3 = .ok (.ifCond .lt 14, 3) := by decide +kernel
theorem dX8_in_6 : decode cX8_in 6 = .ok (.lload_n 0, 1) := by decide +kernel
theorem dX8_in_7 : decode cX8_in 7 = .ok (.lload 4, 2) := by decide +kernel
theorem dX8_in_9 : decode cX8_in 9 = .ok (.lcmp, 1) := by decide +kernel
theorem dX8_in_10 : decode cX8_in 10 = .ok (.ifCond .gt 7, 3) := by decide +kernel
theorem dX8_in_13 : decode cX8_in 13 = .ok (.iconst 1, 1) := by decide +kernel
theorem dX8_in_14 : decode cX8_in 14 = .ok (.goto 4, 3) := by decide +kernel
theorem dX8_in_17 : decode cX8_in 17 = .ok (.iconst 0, 1) := by decide +kernel
theorem dX8_in_18 : decode cX8_in 18 = .ok (.ireturn, 1) := by decide +kernel
theorem dX8_copyState_0 : decode cX8_copyState 0 = .ok (.iconst 0, 1) := by decide +kernel
theorem dX8_copyState_1 : decode cX8_copyState 1 = .ok (.istore 4, 2) := by decide +kernel
theorem dX8_copyState_3 : decode cX8_copyState 3 = .ok (.iload 4, 2) := by decide +kernel
theorem dX8_copyState_5 : decode cX8_copyState 5 = .ok (.bipush 54, 2) := by decide +kernel
theorem dX8_copyState_7 : decode cX8_copyState 7 = .ok (.if_icmp .ge 21, 3) := by decide +kernel
theorem dX8_copyState_10 : decode cX8_copyState 10 = .ok (.aload_n 2, 1) := by decide +kernel
theorem dX8_copyState_11 : decode cX8_copyState 11 = .ok (.iload_n 3, 1) := by decide +kernel
theorem dX8_copyState_12 : decode cX8_copyState 12 = .ok (.iload 4, 2) := by decide +kernel
theorem dX8_copyState_14 : decode cX8_copyState 14 = .ok (.iadd, 1) := by decide +kernel
theorem dX8_copyState_15 : decode cX8_copyState 15 = .ok (.aload_n 0, 1) := by decide +kernel
theorem dX8_copyState_16 : decode cX8_copyState 16 = .ok (.iload_n 1, 1) := by decide +kernel
theorem dX8_copyState_17 : decode cX8_copyState 17 = .ok (.iload 4, 2) := by decide +kernel
theorem dX8_copyState_19 : decode cX8_copyState 19 = .ok (.iadd, 1) := by decide +kernel
theorem dX8_copyState_20 : decode cX8_copyState 20 = .ok (.iaload, 1) := by decide +kernel
theorem dX8_copyState_21 : decode cX8_copyState 21 = .ok (.iastore, 1) := by decide +kernel
theorem dX8_copyState_22 : decode cX8_copyState 22 = .ok (.iinc 4 1, 3) := by decide +kernel
theorem dX8_copyState_25 : decode cX8_copyState 25 = .ok (.goto (-22), 3) := by decide +kernel
theorem dX8_copyState_28 : decode cX8_copyState 28 = .ok (.return_, 1) := by decide +kernel
theorem dX8_clear_0 : decode cX8_clear 0 = .ok (.iconst 0, 1) := by decide +kernel
theorem dX8_clear_1 : decode cX8_clear 1 = .ok (.istore_n 1, 1) := by decide +kernel
theorem dX8_clear_2 : decode cX8_clear 2 = .ok (.iload_n 1, 1) := by decide +kernel
theorem dX8_clear_3 : decode cX8_clear 3 = .ok (.bipush 54, 2) := by decide +kernel
theorem dX8_clear_5 : decode cX8_clear 5 = .ok (.if_icmp .ge 13, 3) := by decide +kernel
theorem dX8_clear_8 : decode cX8_clear 8 = .ok (.aload_n 0, 1) := by decide +kernel
theorem dX8_clear_9 : decode cX8_clear 9 = .ok (.iload_n 1, 1) := by decide +kernel
theorem dX8_clear_10 : decode cX8_clear 10 = .ok (.iconst 0, 1) := by decide +kernel
theorem dX8_clear_11 : decode cX8_clear 11 = .ok (.iastore, 1) := by decide +kernel
theorem dX8_clear_12 : decode cX8_clear 12 = .ok (.iinc 1 1, 3) := by decide +kernel
theorem dX8_clear_15 : decode cX8_clear 15 = .ok (.goto (-13), 3) := by decide +kernel
theorem dX8_clear_18 : decode cX8_clear 18 = .ok (.aload_n 0, 1) := by decide +kernel
theorem dX8_clear_19 : decode cX8_clear 19 = .ok (.invokestatic 43, 3) := by decide +kernel
theorem dX8_clear_22 : decode cX8_clear 22 = .ok (.return_, 1) := by decide +kernel
theorem dX8_free_0 : decode cX8_free 0 = .ok (.aload_n 0, 1) := by decide +kernel
theorem dX8_free_1 : decode cX8_free 1 = .ok (.iconst 5, 1) := by decide +kernel
theorem dX8_free_2 : decode cX8_free 2 = .ok (.iconst 0, 1) := by decide +kernel
theorem dX8_free_3 : decode cX8_free 3 = .ok (.iastore, 1) := by decide +kernel
theorem dX8_free_4 : decode cX8_free 4 = .ok (.iconst 0, 1) := by decide +kernel
theorem dX8_free_5 : decode cX8_free 5 = .ok (.istore_n 1, 1) := by decide +kernel
theorem dX8_free_6 : decode cX8_free 6 = .ok (.iload_n 1, 1) := by decide +kernel
theorem dX8_free_7 : decode cX8_free 7 = .ok (.bipush 16, 2) := by decide +kernel
theorem dX8_free_9 : decode cX8_free 9 = .ok (.if_icmp .ge 16, 3) := by decide +kernel
theorem dX8_free_12 : decode cX8_free 12 = .ok (.aload_n 0, 1) := by decide +kernel
theorem dX8_free_13 : decode cX8_free 13 = .ok (.bipush 38, 2) := by decide +kernel
theorem dX8_free_15 : decode cX8_free 15 = .ok (.iload_n 1, 1) := by decide +kernel
theorem dX8_free_16 : decode cX8_free 16 = .ok (.iadd, 1) := by decide +kernel
theorem dX8_free_17 : decode cX8_free 17 = .ok (.iconst (-1), 1) := by decide +kernel
theorem dX8_free_18 : decode cX8_free 18 = .ok (.iastore, 1) := by decide +kernel
theorem dX8_free_19 : decode cX8_free 19 = .ok (.iinc 1 1, 3) := by decide +kernel
theorem dX8_free_22 : decode cX8_free 22 = .ok (.goto (-16), 3) := by decide +kernel
theorem dX8_free_25 : decode cX8_free 25 = .ok (.return_, 1) := by decide +kernel
theorem dX8_isJewel_0 : decode cX8_isJewel 0 = .ok (.iload_n 1, 1) := by decide +kernel
theorem dX8_isJewel_1 : decode cX8_isJewel 1 = .ok (.i2l, 1) := by decide +kernel
theorem dX8_isJewel_2 : decode cX8_isJewel 2 = .ok (.lconst 0, 1) := by decide +kernel
theorem dX8_isJewel_3 : decode cX8_isJewel 3 = .ok (.aload_n 0, 1) := by decide +kernel
theorem dX8_isJewel_4 : decode cX8_isJewel 4 = .ok (.iconst 0, 1) := by decide +kernel
theorem dX8_isJewel_5 : decode cX8_isJewel 5 = .ok (.iaload, 1) := by decide +kernel
theorem dX8_isJewel_6 : decode cX8_isJewel 6 = .ok (.iconst 1, 1) := by decide +kernel
theorem dX8_isJewel_7 : decode cX8_isJewel 7 = .ok (.isub, 1) := by decide +kernel
theorem dX8_isJewel_8 : decode cX8_isJewel 8 = .ok (.i2l, 1) := by decide +kernel
theorem dX8_isJewel_9 : decode cX8_isJewel 9 = .ok (.invokestatic 46, 3) := by decide +kernel
theorem dX8_isJewel_12 : decode cX8_isJewel 12 = .ok (.ireturn, 1) := by decide +kernel
theorem dX8_isCutPlace_0 : decode cX8_isCutPlace 0 = .ok (.iload_n 1, 1) := by decide +kernel
theorem dX8_isCutPlace_1 : decode cX8_isCutPlace 1 = .ok (.i2l, 1) := by decide +kernel
theorem dX8_isCutPlace_2 : decode cX8_isCutPlace 2 = .ok (.lconst 1, 1) := by decide +kernel
theorem dX8_isCutPlace_3 : decode cX8_isCutPlace 3 = .ok (.aload_n 0, 1) := by decide +kernel
theorem dX8_isCutPlace_4 : decode cX8_isCutPlace 4 = .ok (.iconst 0, 1) := by decide +kernel
theorem dX8_isCutPlace_5 : decode cX8_isCutPlace 5 = .ok (.iaload, 1) := by decide +kernel
theorem dX8_isCutPlace_6 : decode cX8_isCutPlace 6 = .ok (.iconst 1, 1) := by decide +kernel
theorem dX8_isCutPlace_7 : decode cX8_isCutPlace 7 = .ok (.isub, 1) := by decide +kernel
theorem dX8_isCutPlace_8 : decode cX8_isCutPlace 8 = .ok (.i2l, 1) := by decide +kernel
theorem dX8_isCutPlace_9 : decode cX8_isCutPlace 9 = .ok (.invokestatic 46, 3) := by decide +kernel
theorem dX8_isCutPlace_12 : decode cX8_isCutPlace 12 = .ok (.ireturn, 1) := by decide +kernel
theorem dX8_isOwner_0 : decode cX8_isOwner 0 = .ok (.iload_n 0, 1) := by decide +kernel
theorem dX8_isOwner_1 : decode cX8_isOwner 1 = .ok (.i2l, 1) := by decide +kernel
theorem dX8_isOwner_2 : decode cX8_isOwner 2 = .ok (.ldc2_w 50, 3) := by decide +kernel
theorem dX8_isOwner_5 : decode cX8_isOwner 5 = .ok (.lconst 1, 1) := by decide +kernel
theorem dX8_isOwner_6 : decode cX8_isOwner 6 = .ok (.invokestatic 46, 3) := by decide +kernel
theorem dX8_isOwner_9 : decode cX8_isOwner 9 = .ok (.ireturn, 1) := by decide +kernel
theorem dX8_jewelAt_0 : decode cX8_jewelAt 0 = .ok (.aload_n 0, 1) := by decide +kernel
theorem dX8_jewelAt_1 : decode cX8_jewelAt 1 = .ok (.iconst 1, 1) := by decide +kernel
theorem dX8_jewelAt_2 : decode cX8_jewelAt 2 = .ok (.iaload, 1) := by decide +kernel
theorem dX8_jewelAt_3 : decode cX8_jewelAt 3 = .ok (.iload_n 1, 1) := by decide +kernel
theorem dX8_jewelAt_4 : decode cX8_jewelAt 4 = .ok (.iadd, 1) := by decide +kernel
theorem dX8_jewelAt_5 : decode cX8_jewelAt 5 = .ok (.aload_n 0, 1) := by decide +kernel
theorem dX8_jewelAt_6 : decode cX8_jewelAt 6 = .ok (.iconst 0, 1) := by decide +kernel
theorem dX8_jewelAt_7 : decode cX8_jewelAt 7 = .ok (.iaload, 1) := by decide +kernel
theorem dX8_jewelAt_8 : decode cX8_jewelAt 8 = .ok (.irem, 1) := by decide +kernel
theorem dX8_jewelAt_9 : decode cX8_jewelAt 9 = .ok (.ireturn, 1) := by decide +kernel
theorem dX8_placeOn_0 : decode cX8_placeOn 0 = .ok (.iload_n 1, 1) := by decide +kernel
theorem dX8_placeOn_1 : decode cX8_placeOn 1 = .ok (.aload_n 0, 1) := by decide +kernel
theorem dX8_placeOn_2 : decode cX8_placeOn 2 = .ok (.iconst 1, 1) := by decide +kernel
theorem dX8_placeOn_3 : decode cX8_placeOn 3 = .ok (.iaload, 1) := by decide +kernel
theorem dX8_placeOn_4 : decode cX8_placeOn 4 = .ok (.isub, 1) := by decide +kernel
theorem dX8_placeOn_5 : decode cX8_placeOn 5 = .ok (.aload_n 0, 1) := by decide +kernel
theorem dX8_placeOn_6 : decode cX8_placeOn 6 = .ok (.iconst 0, 1) := by decide +kernel
theorem dX8_placeOn_7 : decode cX8_placeOn 7 = .ok (.iaload, 1) := by decide +kernel
theorem dX8_placeOn_8 : decode cX8_placeOn 8 = .ok (.iadd, 1) := by decide +kernel
theorem dX8_placeOn_9 : decode cX8_placeOn 9 = .ok (.aload_n 0, 1) := by decide +kernel
theorem dX8_placeOn_10 : decode cX8_placeOn 10 = .ok (.iconst 0, 1) := by decide +kernel
theorem dX8_placeOn_11 : decode cX8_placeOn 11 = .ok (.iaload, 1) := by decide +kernel
theorem dX8_placeOn_12 : decode cX8_placeOn 12 = .ok (.irem, 1) := by decide +kernel
theorem dX8_placeOn_13 : decode cX8_placeOn 13 = .ok (.ireturn, 1) := by decide +kernel
theorem dX8_valueOf_0 : decode cX8_valueOf 0 = .ok (.aload_n 0, 1) := by decide +kernel
theorem dX8_valueOf_1 : decode cX8_valueOf 1 = .ok (.iconst 4, 1) := by decide +kernel
theorem dX8_valueOf_2 : decode cX8_valueOf 2 = .ok (.iaload, 1) := by decide +kernel
theorem dX8_valueOf_3 : decode cX8_valueOf 3 = .ok (.ifCond .ne 7, 3) := by decide +kernel
theorem dX8_valueOf_6 : decode cX8_valueOf 6 = .ok (.iconst 1, 1) := by decide +kernel
theorem dX8_valueOf_7 : decode cX8_valueOf 7 = .ok (.goto 9, 3) := by decide +kernel
theorem dX8_valueOf_10 : decode cX8_valueOf 10 = .ok (.aload_n 0, 1) := by decide +kernel
theorem dX8_valueOf_11 : decode cX8_valueOf 11 = .ok (.bipush 22, 2) := by decide +kernel
theorem dX8_valueOf_13 : decode cX8_valueOf 13 = .ok (.iload_n 1, 1) := by decide +kernel
theorem dX8_valueOf_14 : decode cX8_valueOf 14 = .ok (.iadd, 1) := by decide +kernel
theorem dX8_valueOf_15 : decode cX8_valueOf 15 = .ok (.iaload, 1) := by decide +kernel
theorem dX8_valueOf_16 : decode cX8_valueOf 16 = .ok (.ireturn, 1) := by decide +kernel
theorem dX8_isCut_0 : decode cX8_isCut 0 = .ok (.aload_n 0, 1) := by decide +kernel
theorem dX8_isCut_1 : decode cX8_isCut 1 = .ok (.iconst 5, 1) := by decide +kernel
theorem dX8_isCut_2 : decode cX8_isCut 2 = .ok (.iaload, 1) := by decide +kernel
theorem dX8_isCut_3 : decode cX8_isCut 3 = .ok (.iload_n 1, 1) := by decide +kernel
theorem dX8_isCut_4 : decode cX8_isCut 4 = .ok (.ishr, 1) := by decide +kernel
theorem dX8_isCut_5 : decode cX8_isCut 5 = .ok (.iconst 1, 1) := by decide +kernel
theorem dX8_isCut_6 : decode cX8_isCut 6 = .ok (.iand, 1) := by decide +kernel
theorem dX8_isCut_7 : decode cX8_isCut 7 = .ok (.iconst 1, 1) := by decide +kernel
theorem dX8_isCut_8 : decode cX8_isCut 8 = .ok (.if_icmp .ne 7, 3) := by decide +kernel
theorem dX8_isCut_11 : decode cX8_isCut 11 = .ok (.iconst 1, 1) := by decide +kernel
theorem dX8_isCut_12 : decode cX8_isCut 12 = .ok (.goto 4, 3) := by decide +kernel
theorem dX8_isCut_15 : decode cX8_isCut 15 = .ok (.iconst 0, 1) := by decide +kernel
theorem dX8_isCut_16 : decode cX8_isCut 16 = .ok (.ireturn, 1) := by decide +kernel
theorem dX8_bits_0 : decode cX8_bits 0 = .ok (.iconst 0, 1) := by decide +kernel
theorem dX8_bits_1 : decode cX8_bits 1 = .ok (.istore_n 1, 1) := by decide +kernel
theorem dX8_bits_2 : decode cX8_bits 2 = .ok (.iconst 0, 1) := by decide +kernel
theorem dX8_bits_3 : decode cX8_bits 3 = .ok (.istore_n 2, 1) := by decide +kernel
theorem dX8_bits_4 : decode cX8_bits 4 = .ok (.iload_n 2, 1) := by decide +kernel
theorem dX8_bits_5 : decode cX8_bits 5 = .ok (.bipush 16, 2) := by decide +kernel
theorem dX8_bits_7 : decode cX8_bits 7 = .ok (.if_icmp .ge 17, 3) := by decide +kernel
theorem dX8_bits_10 : decode cX8_bits 10 = .ok (.iload_n 1, 1) := by decide +kernel
theorem dX8_bits_11 : decode cX8_bits 11 = .ok (.iload_n 0, 1) := by decide +kernel
theorem dX8_bits_12 : decode cX8_bits 12 = .ok (.iload_n 2, 1) := by decide +kernel
theorem dX8_bits_13 : decode cX8_bits 13 = .ok (.ishr, 1) := by decide +kernel
theorem dX8_bits_14 : decode cX8_bits 14 = .ok (.iconst 1, 1) := by decide +kernel
theorem dX8_bits_15 : decode cX8_bits 15 = .ok (.iand, 1) := by decide +kernel
theorem dX8_bits_16 : decode cX8_bits 16 = .ok (.iadd, 1) := by decide +kernel
theorem dX8_bits_17 : decode cX8_bits 17 = .ok (.istore_n 1, 1) := by decide +kernel
theorem dX8_bits_18 : decode cX8_bits 18 = .ok (.iinc 2 1, 3) := by decide +kernel
theorem dX8_bits_21 : decode cX8_bits 21 = .ok (.goto (-17), 3) := by decide +kernel
theorem dX8_bits_24 : decode cX8_bits 24 = .ok (.iload_n 1, 1) := by decide +kernel
theorem dX8_bits_25 : decode cX8_bits 25 = .ok (.ireturn, 1) := by decide +kernel
theorem dX8_runs_0 : decode cX8_runs 0 = .ok (.aload_n 0, 1) := by decide +kernel
theorem dX8_runs_1 : decode cX8_runs 1 = .ok (.iconst 0, 1) := by decide +kernel
theorem dX8_runs_2 : decode cX8_runs 2 = .ok (.iaload, 1) := by decide +kernel
theorem dX8_runs_3 : decode cX8_runs 3 = .ok (.ifCond .ne 7, 3) := by decide +kernel
theorem dX8_runs_6 : decode cX8_runs 6 = .ok (.iconst 0, 1) := by decide +kernel
theorem dX8_runs_7 : decode cX8_runs 7 = .ok (.goto 11, 3) := by decide +kernel
theorem dX8_runs_10 : decode cX8_runs 10 = .ok (.aload_n 0, 1) := by decide +kernel
theorem dX8_runs_11 : decode cX8_runs 11 = .ok (.iconst 5, 1) := by decide +kernel
theorem dX8_runs_12 : decode cX8_runs 12 = .ok (.iaload, 1) := by decide +kernel
theorem dX8_runs_13 : decode cX8_runs 13 = .ok (.invokestatic 52, 3) := by decide +kernel
theorem dX8_runs_16 : decode cX8_runs 16 = .ok (.iconst 1, 1) := by decide +kernel
theorem dX8_runs_17 : decode cX8_runs 17 = .ok (.iadd, 1) := by decide +kernel
theorem dX8_runs_18 : decode cX8_runs 18 = .ok (.ireturn, 1) := by decide +kernel
theorem dX8_isRun_0 : decode cX8_isRun 0 = .ok (.iload_n 1, 1) := by decide +kernel
theorem dX8_isRun_1 : decode cX8_isRun 1 = .ok (.i2l, 1) := by decide +kernel
theorem dX8_isRun_2 : decode cX8_isRun 2 = .ok (.lconst 0, 1) := by decide +kernel
theorem dX8_isRun_3 : decode cX8_isRun 3 = .ok (.aload_n 0, 1) := by decide +kernel
theorem dX8_isRun_4 : decode cX8_isRun 4 = .ok (.invokestatic 56, 3) := by decide +kernel
theorem dX8_isRun_7 : decode cX8_isRun 7 = .ok (.iconst 1, 1) := by decide +kernel
theorem dX8_isRun_8 : decode cX8_isRun 8 = .ok (.isub, 1) := by decide +kernel
theorem dX8_isRun_9 : decode cX8_isRun 9 = .ok (.i2l, 1) := by decide +kernel
theorem dX8_isRun_10 : decode cX8_isRun 10 = .ok (.invokestatic 46, 3) := by decide +kernel
theorem dX8_isRun_13 : decode cX8_isRun 13 = .ok (.ireturn, 1) := by decide +kernel
theorem dX8_runAt_0 : decode cX8_runAt 0 = .ok (.iconst 0, 1) := by decide +kernel
theorem dX8_runAt_1 : decode cX8_runAt 1 = .ok (.istore_n 2, 1) := by decide +kernel
theorem dX8_runAt_2 : decode cX8_runAt 2 = .ok (.iconst 1, 1) := by decide +kernel
theorem dX8_runAt_3 : decode cX8_runAt 3 = .ok (.istore_n 3, 1) := by decide +kernel
theorem dX8_runAt_4 : decode cX8_runAt 4 = .ok (.iload_n 3, 1) := by decide +kernel
theorem dX8_runAt_5 : decode cX8_runAt 5 = .ok (.iload_n 1, 1) := by decide +kernel
theorem dX8_runAt_6 : decode cX8_runAt 6 = .ok (.if_icmp .gt 25, 3) := by decide +kernel
theorem dX8_runAt_9 : decode cX8_runAt 9 = .ok (.iload_n 2, 1) := by decide +kernel
theorem dX8_runAt_10 : decode cX8_runAt 10 = .ok (.aload_n 0, 1) := by decide +kernel
theorem dX8_runAt_11 : decode cX8_runAt 11 = .ok (.iload_n 3, 1) := by decide +kernel
theorem dX8_runAt_12 : decode cX8_runAt 12 = .ok (.invokestatic 60, 3) := by decide +kernel
theorem dX8_runAt_15 : decode cX8_runAt 15 = .ok (.ifCond .eq 7, 3) := by decide +kernel
theorem dX8_runAt_18 : decode cX8_runAt 18 = .ok (.iconst 1, 1) := by decide +kernel
theorem dX8_runAt_19 : decode cX8_runAt 19 = .ok (.goto 4, 3) := by decide +kernel
theorem dX8_runAt_22 : decode cX8_runAt 22 = .ok (.iconst 0, 1) := by decide +kernel
theorem dX8_runAt_23 : decode cX8_runAt 23 = .ok (.iadd, 1) := by decide +kernel
theorem dX8_runAt_24 : decode cX8_runAt 24 = .ok (.istore_n 2, 1) := by decide +kernel
theorem dX8_runAt_25 : decode cX8_runAt 25 = .ok (.iinc 3 1, 3) := by decide +kernel
theorem dX8_runAt_28 : decode cX8_runAt 28 = .ok (.goto (-24), 3) := by decide +kernel
theorem dX8_runAt_31 : decode cX8_runAt 31 = .ok (.iload_n 2, 1) := by decide +kernel
theorem dX8_runAt_32 : decode cX8_runAt 32 = .ok (.ireturn, 1) := by decide +kernel
theorem dX8_firstOf_0 : decode cX8_firstOf 0 = .ok (.iconst 0, 1) := by decide +kernel
theorem dX8_firstOf_1 : decode cX8_firstOf 1 = .ok (.istore_n 2, 1) := by decide +kernel
theorem dX8_firstOf_2 : decode cX8_firstOf 2 = .ok (.aload_n 0, 1) := by decide +kernel
theorem dX8_firstOf_3 : decode cX8_firstOf 3 = .ok (.iload_n 2, 1) := by decide +kernel
theorem dX8_firstOf_4 : decode cX8_firstOf 4 = .ok (.invokestatic 64, 3) := by decide +kernel
theorem dX8_firstOf_7 : decode cX8_firstOf 7 = .ok (.iload_n 1, 1) := by decide +kernel
theorem dX8_firstOf_8 : decode cX8_firstOf 8 = .ok (.if_icmp .ge 9, 3) := by decide +kernel
theorem dX8_firstOf_11 : decode cX8_firstOf 11 = .ok (.iinc 2 1, 3) := by decide +kernel
theorem dX8_firstOf_14 : decode cX8_firstOf 14 = .ok (.goto (-12), 3) := by decide +kernel
theorem dX8_firstOf_17 : decode cX8_firstOf 17 = .ok (.iload_n 2, 1) := by decide +kernel
theorem dX8_firstOf_18 : decode cX8_firstOf 18 = .ok (.ireturn, 1) := by decide +kernel
theorem dX8_placesOf_0 : decode cX8_placesOf 0 = .ok (.iconst 0, 1) := by decide +kernel
theorem dX8_placesOf_1 : decode cX8_placesOf 1 = .ok (.istore_n 2, 1) := by decide +kernel
theorem dX8_placesOf_2 : decode cX8_placesOf 2 = .ok (.iconst 0, 1) := by decide +kernel
theorem dX8_placesOf_3 : decode cX8_placesOf 3 = .ok (.istore_n 3, 1) := by decide +kernel
theorem dX8_placesOf_4 : decode cX8_placesOf 4 = .ok (.iload_n 3, 1) := by decide +kernel
theorem dX8_placesOf_5 : decode cX8_placesOf 5 = .ok (.aload_n 0, 1) := by decide +kernel
theorem dX8_placesOf_6 : decode cX8_placesOf 6 = .ok (.iconst 0, 1) := by decide +kernel
theorem dX8_placesOf_7 : decode cX8_placesOf 7 = .ok (.iaload, 1) := by decide +kernel
theorem dX8_placesOf_8 : decode cX8_placesOf 8 = .ok (.if_icmp .ge 26, 3) := by decide +kernel
theorem dX8_placesOf_11 : decode cX8_placesOf 11 = .ok (.iload_n 2, 1) := by decide +kernel
theorem dX8_placesOf_12 : decode cX8_placesOf 12 = .ok (.aload_n 0, 1) := by decide +kernel
theorem dX8_placesOf_13 : decode cX8_placesOf 13 = .ok (.iload_n 3, 1) := by decide +kernel
theorem dX8_placesOf_14 : decode cX8_placesOf 14 = .ok (.invokestatic 64, 3) := by decide +kernel
theorem dX8_placesOf_17 : decode cX8_placesOf 17 = .ok (.iload_n 1, 1) := by decide +kernel
theorem dX8_placesOf_18 : decode cX8_placesOf 18 = .ok (.if_icmp .ne 7, 3) := by decide +kernel
theorem dX8_placesOf_21 : decode cX8_placesOf 21 = .ok (.iconst 1, 1) := by decide +kernel
theorem dX8_placesOf_22 : decode cX8_placesOf 22 = .ok (.goto 4, 3) := by decide +kernel
theorem dX8_placesOf_25 : decode cX8_placesOf 25 = .ok (.iconst 0, 1) := by decide +kernel
theorem dX8_placesOf_26 : decode cX8_placesOf 26 = .ok (.iadd, 1) := by decide +kernel
theorem dX8_placesOf_27 : decode cX8_placesOf 27 = .ok (.istore_n 2, 1) := by decide +kernel
theorem dX8_placesOf_28 : decode cX8_placesOf 28 = .ok (.iinc 3 1, 3) := by decide +kernel
theorem dX8_placesOf_31 : decode cX8_placesOf 31 = .ok (.goto (-27), 3) := by decide +kernel
theorem dX8_placesOf_34 : decode cX8_placesOf 34 = .ok (.iload_n 2, 1) := by decide +kernel
theorem dX8_placesOf_35 : decode cX8_placesOf 35 = .ok (.ireturn, 1) := by decide +kernel
theorem dX8_hasOf_0 : decode cX8_hasOf 0 = .ok (.iconst 0, 1) := by decide +kernel
theorem dX8_hasOf_1 : decode cX8_hasOf 1 = .ok (.istore_n 3, 1) := by decide +kernel
theorem dX8_hasOf_2 : decode cX8_hasOf 2 = .ok (.iconst 0, 1) := by decide +kernel
theorem dX8_hasOf_3 : decode cX8_hasOf 3 = .ok (.istore 4, 2) := by decide +kernel
theorem dX8_hasOf_5 : decode cX8_hasOf 5 = .ok (.iload 4, 2) := by decide +kernel
theorem dX8_hasOf_7 : decode cX8_hasOf 7 = .ok (.aload_n 0, 1) := by decide +kernel
theorem dX8_hasOf_8 : decode cX8_hasOf 8 = .ok (.iconst 0, 1) := by decide +kernel
theorem dX8_hasOf_9 : decode cX8_hasOf 9 = .ok (.iaload, 1) := by decide +kernel
theorem dX8_hasOf_10 : decode cX8_hasOf 10 = .ok (.if_icmp .ge 52, 3) := by decide +kernel
theorem dX8_hasOf_13 : decode cX8_hasOf 13 = .ok (.aload_n 0, 1) := by decide +kernel
theorem dX8_hasOf_14 : decode cX8_hasOf 14 = .ok (.iload 4, 2) := by decide +kernel
theorem dX8_hasOf_16 : decode cX8_hasOf 16 = .ok (.invokestatic 68, 3) := by decide +kernel
theorem dX8_hasOf_19 : decode cX8_hasOf 19 = .ok (.istore 5, 2) := by decide +kernel
theorem dX8_hasOf_21 : decode cX8_hasOf 21 = .ok (.iload_n 3, 1) := by decide +kernel
theorem dX8_hasOf_22 : decode cX8_hasOf 22 = .ok (.aload_n 0, 1) := by decide +kernel
theorem dX8_hasOf_23 : decode cX8_hasOf 23 = .ok (.bipush 38, 2) := by decide +kernel
theorem dX8_hasOf_25 : decode cX8_hasOf 25 = .ok (.iload 4, 2) := by decide +kernel
theorem dX8_hasOf_27 : decode cX8_hasOf 27 = .ok (.iadd, 1) := by decide +kernel
theorem dX8_hasOf_28 : decode cX8_hasOf 28 = .ok (.iaload, 1) := by decide +kernel
theorem dX8_hasOf_29 : decode cX8_hasOf 29 = .ok (.iload_n 1, 1) := by decide +kernel
theorem dX8_hasOf_30 : decode cX8_hasOf 30 = .ok (.if_icmp .ne 23, 3) := by decide +kernel
theorem dX8_hasOf_33 : decode cX8_hasOf 33 = .ok (.aload_n 0, 1) := by decide +kernel
theorem dX8_hasOf_34 : decode cX8_hasOf 34 = .ok (.bipush 6, 2) := by decide +kernel
theorem dX8_hasOf_36 : decode cX8_hasOf 36 = .ok (.iload 5, 2) := by decide +kernel
theorem dX8_hasOf_38 : decode cX8_hasOf 38 = .ok (.iadd, 1) := by decide +kernel
theorem dX8_hasOf_39 : decode cX8_hasOf 39 = .ok (.iaload, 1) := by decide +kernel
theorem dX8_hasOf_40 : decode cX8_hasOf 40 = .ok (.iload_n 2, 1) := by decide +kernel
theorem dX8_hasOf_41 : decode cX8_hasOf 41 = .ok (.if_icmp .ne 12, 3) := by decide +kernel
theorem dX8_hasOf_44 : decode cX8_hasOf 44 = .ok (.aload_n 0, 1) := by decide +kernel
theorem dX8_hasOf_45 : decode cX8_hasOf 45 = .ok (.iload 5, 2) := by decide +kernel
theorem dX8_hasOf_47 : decode cX8_hasOf 47 = .ok (.invokestatic 71, 3) := by decide +kernel
theorem dX8_hasOf_50 : decode cX8_hasOf 50 = .ok (.goto 4, 3) := by decide +kernel
theorem dX8_hasOf_53 : decode cX8_hasOf 53 = .ok (.iconst 0, 1) := by decide +kernel
theorem dX8_hasOf_54 : decode cX8_hasOf 54 = .ok (.iadd, 1) := by decide +kernel
theorem dX8_hasOf_55 : decode cX8_hasOf 55 = .ok (.istore_n 3, 1) := by decide +kernel
theorem dX8_hasOf_56 : decode cX8_hasOf 56 = .ok (.iinc 4 1, 3) := by decide +kernel
theorem dX8_hasOf_59 : decode cX8_hasOf 59 = .ok (.goto (-54), 3) := by decide +kernel
theorem dX8_hasOf_62 : decode cX8_hasOf 62 = .ok (.iload_n 3, 1) := by decide +kernel
theorem dX8_hasOf_63 : decode cX8_hasOf 63 = .ok (.ireturn, 1) := by decide +kernel
theorem dX8_gap_0 : decode cX8_gap 0 = .ok (.iconst 0, 1) := by decide +kernel
theorem dX8_gap_1 : decode cX8_gap 1 = .ok (.istore_n 1, 1) := by decide +kernel
theorem dX8_gap_2 : decode cX8_gap 2 = .ok (.iconst 0, 1) := by decide +kernel
theorem dX8_gap_3 : decode cX8_gap 3 = .ok (.istore_n 2, 1) := by decide +kernel
theorem dX8_gap_4 : decode cX8_gap 4 = .ok (.iload_n 2, 1) := by decide +kernel
theorem dX8_gap_5 : decode cX8_gap 5 = .ok (.iconst 4, 1) := by decide +kernel
theorem dX8_gap_6 : decode cX8_gap 6 = .ok (.if_icmp .ge 36, 3) := by decide +kernel
theorem dX8_gap_9 : decode cX8_gap 9 = .ok (.aload_n 0, 1) := by decide +kernel
theorem dX8_gap_10 : decode cX8_gap 10 = .ok (.iconst 0, 1) := by decide +kernel
theorem dX8_gap_11 : decode cX8_gap 11 = .ok (.iload_n 2, 1) := by decide +kernel
theorem dX8_gap_12 : decode cX8_gap 12 = .ok (.invokestatic 74, 3) := by decide +kernel
theorem dX8_gap_15 : decode cX8_gap 15 = .ok (.aload_n 0, 1) := by decide +kernel
theorem dX8_gap_16 : decode cX8_gap 16 = .ok (.iconst 1, 1) := by decide +kernel
theorem dX8_gap_17 : decode cX8_gap 17 = .ok (.iload_n 2, 1) := by decide +kernel
theorem dX8_gap_18 : decode cX8_gap 18 = .ok (.invokestatic 74, 3) := by decide +kernel
theorem dX8_gap_21 : decode cX8_gap 21 = .ok (.isub, 1) := by decide +kernel
theorem dX8_gap_22 : decode cX8_gap 22 = .ok (.istore_n 3, 1) := by decide +kernel
theorem dX8_gap_23 : decode cX8_gap 23 = .ok (.iload_n 1, 1) := by decide +kernel
theorem dX8_gap_24 : decode cX8_gap 24 = .ok (.iload_n 3, 1) := by decide +kernel
theorem dX8_gap_25 : decode cX8_gap 25 = .ok (.ifCond .ge 8, 3) := by decide +kernel
theorem dX8_gap_28 : decode cX8_gap 28 = .ok (.iload_n 3, 1) := by decide +kernel
theorem dX8_gap_29 : decode cX8_gap 29 = .ok (.ineg, 1) := by decide +kernel
theorem dX8_gap_30 : decode cX8_gap 30 = .ok (.goto 4, 3) := by decide +kernel
theorem dX8_gap_33 : decode cX8_gap 33 = .ok (.iload_n 3, 1) := by decide +kernel
theorem dX8_gap_34 : decode cX8_gap 34 = .ok (.iadd, 1) := by decide +kernel
theorem dX8_gap_35 : decode cX8_gap 35 = .ok (.istore_n 1, 1) := by decide +kernel
theorem dX8_gap_36 : decode cX8_gap 36 = .ok (.iinc 2 1, 3) := by decide +kernel
theorem dX8_gap_39 : decode cX8_gap 39 = .ok (.goto (-35), 3) := by decide +kernel
theorem dX8_gap_42 : decode cX8_gap 42 = .ok (.iload_n 1, 1) := by decide +kernel
theorem dX8_gap_43 : decode cX8_gap 43 = .ok (.ireturn, 1) := by decide +kernel
theorem dX8_nobodys_0 : decode cX8_nobodys 0 = .ok (.iconst 0, 1) := by decide +kernel
theorem dX8_nobodys_1 : decode cX8_nobodys 1 = .ok (.istore_n 1, 1) := by decide +kernel
theorem dX8_nobodys_2 : decode cX8_nobodys 2 = .ok (.iconst 0, 1) := by decide +kernel
theorem dX8_nobodys_3 : decode cX8_nobodys 3 = .ok (.istore_n 2, 1) := by decide +kernel
theorem dX8_nobodys_4 : decode cX8_nobodys 4 = .ok (.iload_n 2, 1) := by decide +kernel
theorem dX8_nobodys_5 : decode cX8_nobodys 5 = .ok (.aload_n 0, 1) := by decide +kernel
theorem dX8_nobodys_6 : decode cX8_nobodys 6 = .ok (.iconst 0, 1) := by decide +kernel
theorem dX8_nobodys_7 : decode cX8_nobodys 7 = .ok (.iaload, 1) := by decide +kernel
theorem dX8_nobodys_8 : decode cX8_nobodys 8 = .ok (.if_icmp .ge 27, 3) := by decide +kernel
theorem dX8_nobodys_11 : decode cX8_nobodys 11 = .ok (.iload_n 1, 1) := by decide +kernel
theorem dX8_nobodys_12 : decode cX8_nobodys 12 = .ok (.aload_n 0, 1) := by decide +kernel
theorem dX8_nobodys_13 : decode cX8_nobodys 13 = .ok (.bipush 38, 2) := by decide +kernel
theorem dX8_nobodys_15 : decode cX8_nobodys 15 = .ok (.iload_n 2, 1) := by decide +kernel
theorem dX8_nobodys_16 : decode cX8_nobodys 16 = .ok (.iadd, 1) := by decide +kernel
theorem dX8_nobodys_17 : decode cX8_nobodys 17 = .ok (.iaload, 1) := by decide +kernel
theorem dX8_nobodys_18 : decode cX8_nobodys 18 = .ok (.iconst (-1), 1) := by decide +kernel
theorem dX8_nobodys_19 : decode cX8_nobodys 19 = .ok (.if_icmp .ne 7, 3) := by decide +kernel
theorem dX8_nobodys_22 : decode cX8_nobodys 22 = .ok (.iconst 1, 1) := by decide +kernel
theorem dX8_nobodys_23 : decode cX8_nobodys 23 = .ok (.goto 4, 3) := by decide +kernel
theorem dX8_nobodys_26 : decode cX8_nobodys 26 = .ok (.iconst 0, 1) := by decide +kernel
theorem dX8_nobodys_27 : decode cX8_nobodys 27 = .ok (.iadd, 1) := by decide +kernel
theorem dX8_nobodys_28 : decode cX8_nobodys 28 = .ok (.istore_n 1, 1) := by decide +kernel
theorem dX8_nobodys_29 : decode cX8_nobodys 29 = .ok (.iinc 2 1, 3) := by decide +kernel
theorem dX8_nobodys_32 : decode cX8_nobodys 32 = .ok (.goto (-28), 3) := by decide +kernel
theorem dX8_nobodys_35 : decode cX8_nobodys 35 = .ok (.iload_n 1, 1) := by decide +kernel
theorem dX8_nobodys_36 : decode cX8_nobodys 36 = .ok (.ireturn, 1) := by decide +kernel
theorem dX8_layOut_0 : decode cX8_layOut 0 = .ok (.iconst 0, 1) := by decide +kernel
theorem dX8_layOut_1 : decode cX8_layOut 1 = .ok (.istore_n 2, 1) := by decide +kernel
theorem dX8_layOut_2 : decode cX8_layOut 2 = .ok (.iload_n 2, 1) := by decide +kernel
theorem dX8_layOut_3 : decode cX8_layOut 3 = .ok (.iconst 4, 1) := by decide +kernel
theorem dX8_layOut_4 : decode cX8_layOut 4 = .ok (.if_icmp .ge 87, 3) := by decide +kernel
theorem dX8_layOut_7 : decode cX8_layOut 7 = .ok (.aload_n 0, 1) := by decide +kernel
theorem dX8_layOut_8 : decode cX8_layOut 8 = .ok (.getfield 29, 3) := by decide +kernel
theorem dX8_layOut_11 : decode cX8_layOut 11 = .ok (.bipush 17, 2) := by decide +kernel
theorem dX8_layOut_13 : decode cX8_layOut 13 = .ok (.iload_n 2, 1) := by decide +kernel
theorem dX8_layOut_14 : decode cX8_layOut 14 = .ok (.imul, 1) := by decide +kernel
theorem dX8_layOut_15 : decode cX8_layOut 15 = .ok (.iconst 0, 1) := by decide +kernel
theorem dX8_layOut_16 : decode cX8_layOut 16 = .ok (.iastore, 1) := by decide +kernel
theorem dX8_layOut_17 : decode cX8_layOut 17 = .ok (.iconst 0, 1) := by decide +kernel
theorem dX8_layOut_18 : decode cX8_layOut 18 = .ok (.istore_n 3, 1) := by decide +kernel
theorem dX8_layOut_19 : decode cX8_layOut 19 = .ok (.iload_n 3, 1) := by decide +kernel
theorem dX8_layOut_20 : decode cX8_layOut 20 = .ok (.aload_n 1, 1) := by decide +kernel
theorem dX8_layOut_21 : decode cX8_layOut 21 = .ok (.iconst 0, 1) := by decide +kernel
theorem dX8_layOut_22 : decode cX8_layOut 22 = .ok (.iaload, 1) := by decide +kernel
theorem dX8_layOut_23 : decode cX8_layOut 23 = .ok (.if_icmp .ge 62, 3) := by decide +kernel
theorem dX8_layOut_26 : decode cX8_layOut 26 = .ok (.aload_n 1, 1) := by decide +kernel
theorem dX8_layOut_27 : decode cX8_layOut 27 = .ok (.iload_n 3, 1) := by decide +kernel
theorem dX8_layOut_28 : decode cX8_layOut 28 = .ok (.invokestatic 68, 3) := by decide +kernel
theorem dX8_layOut_31 : decode cX8_layOut 31 = .ok (.istore 4, 2) := by decide +kernel
theorem dX8_layOut_33 : decode cX8_layOut 33 = .ok (.aload_n 0, 1) := by decide +kernel
theorem dX8_layOut_34 : decode cX8_layOut 34 = .ok (.getfield 29, 3) := by decide +kernel
theorem dX8_layOut_37 : decode cX8_layOut 37 = .ok (.bipush 17, 2) := by decide +kernel
theorem dX8_layOut_39 : decode cX8_layOut 39 = .ok (.iload_n 2, 1) := by decide +kernel
theorem dX8_layOut_40 : decode cX8_layOut 40 = .ok (.imul, 1) := by decide +kernel
theorem dX8_layOut_41 : decode cX8_layOut 41 = .ok (.iload_n 3, 1) := by decide +kernel
theorem dX8_layOut_42 : decode cX8_layOut 42 = .ok (.iadd, 1) := by decide +kernel
theorem dX8_layOut_43 : decode cX8_layOut 43 = .ok (.iconst 1, 1) := by decide +kernel
theorem dX8_layOut_44 : decode cX8_layOut 44 = .ok (.iadd, 1) := by decide +kernel
theorem dX8_layOut_45 : decode cX8_layOut 45 = .ok (.aload_n 0, 1) := by decide +kernel
theorem dX8_layOut_46 : decode cX8_layOut 46 = .ok (.getfield 29, 3) := by decide +kernel
theorem dX8_layOut_49 : decode cX8_layOut 49 = .ok (.bipush 17, 2) := by decide +kernel
theorem dX8_layOut_51 : decode cX8_layOut 51 = .ok (.iload_n 2, 1) := by decide +kernel
theorem dX8_layOut_52 : decode cX8_layOut 52 = .ok (.imul, 1) := by decide +kernel
theorem dX8_layOut_53 : decode cX8_layOut 53 = .ok (.iload_n 3, 1) := by decide +kernel
theorem dX8_layOut_54 : decode cX8_layOut 54 = .ok (.iadd, 1) := by decide +kernel
theorem dX8_layOut_55 : decode cX8_layOut 55 = .ok (.iaload, 1) := by decide +kernel
theorem dX8_layOut_56 : decode cX8_layOut 56 = .ok (.aload_n 1, 1) := by decide +kernel
theorem dX8_layOut_57 : decode cX8_layOut 57 = .ok (.bipush 6, 2) := by decide +kernel
theorem dX8_layOut_59 : decode cX8_layOut 59 = .ok (.iload 4, 2) := by decide +kernel
theorem dX8_layOut_61 : decode cX8_layOut 61 = .ok (.iadd, 1) := by decide +kernel
theorem dX8_layOut_62 : decode cX8_layOut 62 = .ok (.iaload, 1) := by decide +kernel
theorem dX8_layOut_63 : decode cX8_layOut 63 = .ok (.iload_n 2, 1) := by decide +kernel
theorem dX8_layOut_64 : decode cX8_layOut 64 = .ok (.if_icmp .ne 12, 3) := by decide +kernel
theorem dX8_layOut_67 : decode cX8_layOut 67 = .ok (.aload_n 1, 1) := by decide +kernel
theorem dX8_layOut_68 : decode cX8_layOut 68 = .ok (.iload 4, 2) := by decide +kernel
theorem dX8_layOut_70 : decode cX8_layOut 70 = .ok (.invokestatic 71, 3) := by decide +kernel
theorem dX8_layOut_73 : decode cX8_layOut 73 = .ok (.goto 4, 3) := by decide +kernel
theorem dX8_layOut_76 : decode cX8_layOut 76 = .ok (.iconst 0, 1) := by decide +kernel
theorem dX8_layOut_77 : decode cX8_layOut 77 = .ok (.iadd, 1) := by decide +kernel
theorem dX8_layOut_78 : decode cX8_layOut 78 = .ok (.iastore, 1) := by decide +kernel
theorem dX8_layOut_79 : decode cX8_layOut 79 = .ok (.iinc 3 1, 3) := by decide +kernel
theorem dX8_layOut_82 : decode cX8_layOut 82 = .ok (.goto (-63), 3) := by decide +kernel
theorem dX8_layOut_85 : decode cX8_layOut 85 = .ok (.iinc 2 1, 3) := by decide +kernel
theorem dX8_layOut_88 : decode cX8_layOut 88 = .ok (.goto (-86), 3) := by decide +kernel
theorem dX8_layOut_91 : decode cX8_layOut 91 = .ok (.return_, 1) := by decide +kernel
theorem dX8_gapTried_0 : decode cX8_gapTried 0 = .ok (.iconst 0, 1) := by decide +kernel
theorem dX8_gapTried_1 : decode cX8_gapTried 1 = .ok (.istore_n 3, 1) := by decide +kernel
theorem dX8_gapTried_2 : decode cX8_gapTried 2 = .ok (.iconst 0, 1) := by decide +kernel
theorem dX8_gapTried_3 : decode cX8_gapTried 3 = .ok (.istore 4, 2) := by decide +kernel
theorem dX8_gapTried_5 : decode cX8_gapTried 5 = .ok (.iload 4, 2) := by decide +kernel
theorem dX8_gapTried_7 : decode cX8_gapTried 7 = .ok (.iconst 4, 1) := by decide +kernel
theorem dX8_gapTried_8 : decode cX8_gapTried 8 = .ok (.if_icmp .ge 118, 3) := by decide +kernel
theorem dX8_gapTried_11 : decode cX8_gapTried 11 = .ok (.iconst 0, 1) := by decide +kernel
theorem dX8_gapTried_12 : decode cX8_gapTried 12 = .ok (.istore 5, 2) := by decide +kernel
theorem dX8_gapTried_14 : decode cX8_gapTried 14 = .ok (.iconst 0, 1) := by decide +kernel
theorem dX8_gapTried_15 : decode cX8_gapTried 15 = .ok (.istore 6, 2) := by decide +kernel
theorem dX8_gapTried_17 : decode cX8_gapTried 17 = .ok (.iconst 0, 1) := by decide +kernel
theorem dX8_gapTried_18 : decode cX8_gapTried 18 = .ok (.istore 7, 2) := by decide +kernel
theorem dX8_gapTried_20 : decode cX8_gapTried 20 = .ok (.iload 7, 2) := by decide +kernel
theorem dX8_gapTried_22 : decode cX8_gapTried 22 = .ok (.iload_n 2, 1) := by decide +kernel
theorem dX8_gapTried_23 : decode cX8_gapTried 23 = .ok (.if_icmp .gt 81, 3) := by decide +kernel
theorem dX8_gapTried_26 : decode cX8_gapTried 26 = .ok (.iload 7, 2) := by decide +kernel
theorem dX8_gapTried_28 : decode cX8_gapTried 28 = .ok (.iload_n 2, 1) := by decide +kernel
theorem dX8_gapTried_29 : decode cX8_gapTried 29 = .ok (.if_icmp .ge 13, 3) := by decide +kernel
theorem dX8_gapTried_32 : decode cX8_gapTried 32 = .ok (.aload_n 0, 1) := by decide +kernel
theorem dX8_gapTried_33 : decode cX8_gapTried 33 = .ok (.getfield 32, 3) := by decide +kernel
theorem dX8_gapTried_36 : decode cX8_gapTried 36 = .ok (.iload 7, 2) := by decide +kernel
theorem dX8_gapTried_38 : decode cX8_gapTried 38 = .ok (.iaload, 1) := by decide +kernel
theorem dX8_gapTried_39 : decode cX8_gapTried 39 = .ok (.goto 4, 3) := by decide +kernel
theorem dX8_gapTried_42 : decode cX8_gapTried 42 = .ok (.iload_n 1, 1) := by decide +kernel
theorem dX8_gapTried_43 : decode cX8_gapTried 43 = .ok (.istore 8, 2) := by decide +kernel
theorem dX8_gapTried_45 : decode cX8_gapTried 45 = .ok (.aload_n 0, 1) := by decide +kernel
theorem dX8_gapTried_46 : decode cX8_gapTried 46 = .ok (.getfield 29, 3) := by decide +kernel
theorem dX8_gapTried_49 : decode cX8_gapTried 49 = .ok (.bipush 17, 2) := by decide +kernel
theorem dX8_gapTried_51 : decode cX8_gapTried 51 = .ok (.iload 4, 2) := by decide +kernel
theorem dX8_gapTried_53 : decode cX8_gapTried 53 = .ok (.imul, 1) := by decide +kernel
theorem dX8_gapTried_54 : decode cX8_gapTried 54 = .ok (.iload 8, 2) := by decide +kernel
theorem dX8_gapTried_56 : decode cX8_gapTried 56 = .ok (.iadd, 1) := by decide +kernel
theorem dX8_gapTried_57 : decode cX8_gapTried 57 = .ok (.iaload, 1) := by decide +kernel
theorem dX8_gapTried_58 : decode cX8_gapTried 58 = .ok (.aload_n 0, 1) := by decide +kernel
theorem dX8_gapTried_59 : decode cX8_gapTried 59 = .ok (.getfield 29, 3) := by decide +kernel
theorem dX8_gapTried_62 : decode cX8_gapTried 62 = .ok (.bipush 17, 2) := by decide +kernel
theorem dX8_gapTried_64 : decode cX8_gapTried 64 = .ok (.iload 4, 2) := by decide +kernel
theorem dX8_gapTried_66 : decode cX8_gapTried 66 = .ok (.imul, 1) := by decide +kernel
theorem dX8_gapTried_67 : decode cX8_gapTried 67 = .ok (.iload 6, 2) := by decide +kernel
theorem dX8_gapTried_69 : decode cX8_gapTried 69 = .ok (.iadd, 1) := by decide +kernel
theorem dX8_gapTried_70 : decode cX8_gapTried 70 = .ok (.iaload, 1) := by decide +kernel
theorem dX8_gapTried_71 : decode cX8_gapTried 71 = .ok (.isub, 1) := by decide +kernel
theorem dX8_gapTried_72 : decode cX8_gapTried 72 = .ok (.istore 9, 2) := by decide +kernel
theorem dX8_gapTried_74 : decode cX8_gapTried 74 = .ok (.iload 5, 2) := by decide +kernel
theorem dX8_gapTried_76 : decode cX8_gapTried 76 = .ok (.iload 7, 2) := by decide +kernel
theorem dX8_gapTried_78 : decode cX8_gapTried 78 = .ok (.iconst 2, 1) := by decide +kernel
theorem dX8_gapTried_79 : decode cX8_gapTried 79 = .ok (.irem, 1) := by decide +kernel
theorem dX8_gapTried_80 : decode cX8_gapTried 80 = .ok (.ifCond .ne 8, 3) := by decide +kernel
theorem dX8_gapTried_83 : decode cX8_gapTried 83 = .ok (.iload 9, 2) := by decide +kernel
theorem dX8_gapTried_85 : decode cX8_gapTried 85 = .ok (.goto 6, 3) := by decide +kernel
theorem dX8_gapTried_88 : decode cX8_gapTried 88 = .ok (.iload 9, 2) := by decide +kernel
theorem dX8_gapTried_90 : decode cX8_gapTried 90 = .ok (.ineg, 1) := by decide +kernel
theorem dX8_gapTried_91 : decode cX8_gapTried 91 = .ok (.iadd, 1) := by decide +kernel
theorem dX8_gapTried_92 : decode cX8_gapTried 92 = .ok (.istore 5, 2) := by decide +kernel
theorem dX8_gapTried_94 : decode cX8_gapTried 94 = .ok (.iload 8, 2) := by decide +kernel
theorem dX8_gapTried_96 : decode cX8_gapTried 96 = .ok (.istore 6, 2) := by decide +kernel
theorem dX8_gapTried_98 : decode cX8_gapTried 98 = .ok (.iinc 7 1, 3) := by decide +kernel
theorem dX8_gapTried_101 : decode cX8_gapTried 101 = .ok (.goto (-81), 3) := by decide +kernel
theorem dX8_gapTried_104 : decode cX8_gapTried 104 = .ok (.iload_n 3, 1) := by decide +kernel
theorem dX8_gapTried_105 : decode cX8_gapTried 105 = .ok (.iload 5, 2) := by decide +kernel
theorem dX8_gapTried_107 : decode cX8_gapTried 107 = .ok (.ifCond .ge 9, 3) := by decide +kernel
theorem dX8_gapTried_110 : decode cX8_gapTried 110 = .ok (.iload 5, 2) := by decide +kernel
theorem dX8_gapTried_112 : decode cX8_gapTried 112 = .ok (.ineg, 1) := by decide +kernel
theorem dX8_gapTried_113 : decode cX8_gapTried 113 = .ok (.goto 5, 3) := by decide +kernel
theorem dX8_gapTried_116 : decode cX8_gapTried 116 = .ok (.iload 5, 2) := by decide +kernel
theorem dX8_gapTried_118 : decode cX8_gapTried 118 = .ok (.iadd, 1) := by decide +kernel
theorem dX8_gapTried_119 : decode cX8_gapTried 119 = .ok (.istore_n 3, 1) := by decide +kernel
theorem dX8_gapTried_120 : decode cX8_gapTried 120 = .ok (.iinc 4 1, 3) := by decide +kernel
theorem dX8_gapTried_123 : decode cX8_gapTried 123 = .ok (.goto (-118), 3) := by decide +kernel
theorem dX8_gapTried_126 : decode cX8_gapTried 126 = .ok (.iload_n 3, 1) := by decide +kernel
theorem dX8_gapTried_127 : decode cX8_gapTried 127 = .ok (.ireturn, 1) := by decide +kernel
theorem dX8_firstWay_0 : decode cX8_firstWay 0 = .ok (.iconst 0, 1) := by decide +kernel
theorem dX8_firstWay_1 : decode cX8_firstWay 1 = .ok (.istore_n 3, 1) := by decide +kernel
theorem dX8_firstWay_2 : decode cX8_firstWay 2 = .ok (.iload_n 3, 1) := by decide +kernel
theorem dX8_firstWay_3 : decode cX8_firstWay 3 = .ok (.iload_n 2, 1) := by decide +kernel
theorem dX8_firstWay_4 : decode cX8_firstWay 4 = .ok (.if_icmp .ge 18, 3) := by decide +kernel
theorem dX8_firstWay_7 : decode cX8_firstWay 7 = .ok (.aload_n 0, 1) := by decide +kernel
theorem dX8_firstWay_8 : decode cX8_firstWay 8 = .ok (.getfield 32, 3) := by decide +kernel
theorem dX8_firstWay_11 : decode cX8_firstWay 11 = .ok (.iload_n 3, 1) := by decide +kernel
theorem dX8_firstWay_12 : decode cX8_firstWay 12 = .ok (.iload_n 3, 1) := by decide +kernel
theorem dX8_firstWay_13 : decode cX8_firstWay 13 = .ok (.iconst 1, 1) := by decide +kernel
theorem dX8_firstWay_14 : decode cX8_firstWay 14 = .ok (.iadd, 1) := by decide +kernel
theorem dX8_firstWay_15 : decode cX8_firstWay 15 = .ok (.iastore, 1) := by decide +kernel
theorem dX8_firstWay_16 : decode cX8_firstWay 16 = .ok (.iinc 3 1, 3) := by decide +kernel
theorem dX8_firstWay_19 : decode cX8_firstWay 19 = .ok (.goto (-17), 3) := by decide +kernel
theorem dX8_firstWay_22 : decode cX8_firstWay 22 = .ok (.iload_n 2, 1) := by decide +kernel
theorem dX8_firstWay_23 : decode cX8_firstWay 23 = .ok (.iload_n 1, 1) := by decide +kernel
theorem dX8_firstWay_24 : decode cX8_firstWay 24 = .ok (.if_icmp .lt 7, 3) := by decide +kernel
theorem dX8_firstWay_27 : decode cX8_firstWay 27 = .ok (.iload_n 2, 1) := by decide +kernel
theorem dX8_firstWay_28 : decode cX8_firstWay 28 = .ok (.ifCond .ne 7, 3) := by decide +kernel
theorem dX8_firstWay_31 : decode cX8_firstWay 31 = .ok (.iconst 1, 1) := by decide +kernel
theorem dX8_firstWay_32 : decode cX8_firstWay 32 = .ok (.goto 4, 3) := by decide +kernel
theorem dX8_firstWay_35 : decode cX8_firstWay 35 = .ok (.iconst 0, 1) := by decide +kernel
theorem dX8_firstWay_36 : decode cX8_firstWay 36 = .ok (.ireturn, 1) := by decide +kernel
theorem dX8_nextWay_0 : decode cX8_nextWay 0 = .ok (.iload_n 2, 1) := by decide +kernel
theorem dX8_nextWay_1 : decode cX8_nextWay 1 = .ok (.iconst 1, 1) := by decide +kernel
theorem dX8_nextWay_2 : decode cX8_nextWay 2 = .ok (.isub, 1) := by decide +kernel
theorem dX8_nextWay_3 : decode cX8_nextWay 3 = .ok (.istore_n 3, 1) := by decide +kernel
theorem dX8_nextWay_4 : decode cX8_nextWay 4 = .ok (.iload_n 3, 1) := by decide +kernel
theorem dX8_nextWay_5 : decode cX8_nextWay 5 = .ok (.ifCond .lt 23, 3) := by decide +kernel
theorem dX8_nextWay_8 : decode cX8_nextWay 8 = .ok (.aload_n 0, 1) := by decide +kernel
theorem dX8_nextWay_9 : decode cX8_nextWay 9 = .ok (.getfield 32, 3) := by decide +kernel
theorem dX8_nextWay_12 : decode cX8_nextWay 12 = .ok (.iload_n 3, 1) := by decide +kernel
theorem dX8_nextWay_13 : decode cX8_nextWay 13 = .ok (.iaload, 1) := by decide +kernel
theorem dX8_nextWay_14 : decode cX8_nextWay 14 = .ok (.iload_n 1, 1) := by decide +kernel
theorem dX8_nextWay_15 : decode cX8_nextWay 15 = .ok (.iload_n 2, 1) := by decide +kernel
theorem dX8_nextWay_16 : decode cX8_nextWay 16 = .ok (.isub, 1) := by decide +kernel
theorem dX8_nextWay_17 : decode cX8_nextWay 17 = .ok (.iload_n 3, 1) := by decide +kernel
theorem dX8_nextWay_18 : decode cX8_nextWay 18 = .ok (.iadd, 1) := by decide +kernel
theorem dX8_nextWay_19 : decode cX8_nextWay 19 = .ok (.if_icmp .ne 9, 3) := by decide +kernel
theorem dX8_nextWay_22 : decode cX8_nextWay 22 = .ok (.iinc 3 (-1), 3) := by decide +kernel
theorem dX8_nextWay_25 : decode cX8_nextWay 25 = .ok (.goto (-21), 3) := by decide +kernel
theorem dX8_nextWay_28 : decode cX8_nextWay 28 = .ok (.iload_n 3, 1) := by decide +kernel
theorem dX8_nextWay_29 : decode cX8_nextWay 29 = .ok (.ifCond .ge 5, 3) := by decide +kernel
theorem dX8_nextWay_32 : decode cX8_nextWay 32 = .ok (.iconst 0, 1) := by decide +kernel
theorem dX8_nextWay_33 : decode cX8_nextWay 33 = .ok (.ireturn, 1) := by decide +kernel
theorem dX8_nextWay_34 : decode cX8_nextWay 34 = .ok (.aload_n 0, 1) := by decide +kernel
theorem dX8_nextWay_35 : decode cX8_nextWay 35 = .ok (.getfield 32, 3) := by decide +kernel
theorem dX8_nextWay_38 : decode cX8_nextWay 38 = .ok (.iload_n 3, 1) := by decide +kernel
theorem dX8_nextWay_39 : decode cX8_nextWay 39 = .ok (.dup2, 1) := by decide +kernel
theorem dX8_nextWay_40 : decode cX8_nextWay 40 = .ok (.iaload, 1) := by decide +kernel
theorem dX8_nextWay_41 : decode cX8_nextWay 41 = .ok (.iconst 1, 1) := by decide +kernel
theorem dX8_nextWay_42 : decode cX8_nextWay 42 = .ok (.iadd, 1) := by decide +kernel
theorem dX8_nextWay_43 : decode cX8_nextWay 43 = .ok (.iastore, 1) := by decide +kernel
theorem dX8_nextWay_44 : decode cX8_nextWay 44 = .ok (.iload_n 3, 1) := by decide +kernel
theorem dX8_nextWay_45 : decode cX8_nextWay 45 = .ok (.iconst 1, 1) := by decide +kernel
theorem dX8_nextWay_46 : decode cX8_nextWay 46 = .ok (.iadd, 1) := by decide +kernel
theorem dX8_nextWay_47 : decode cX8_nextWay 47 = .ok (.istore 4, 2) := by decide +kernel
theorem dX8_nextWay_49 : decode cX8_nextWay 49 = .ok (.iload 4, 2) := by decide +kernel
theorem dX8_nextWay_51 : decode cX8_nextWay 51 = .ok (.iload_n 2, 1) := by decide +kernel
theorem dX8_nextWay_52 : decode cX8_nextWay 52 = .ok (.if_icmp .ge 27, 3) := by decide +kernel
theorem dX8_nextWay_55 : decode cX8_nextWay 55 = .ok (.aload_n 0, 1) := by decide +kernel
theorem dX8_nextWay_56 : decode cX8_nextWay 56 = .ok (.getfield 32, 3) := by decide +kernel
theorem dX8_nextWay_59 : decode cX8_nextWay 59 = .ok (.iload 4, 2) := by decide +kernel
theorem dX8_nextWay_61 : decode cX8_nextWay 61 = .ok (.aload_n 0, 1) := by decide +kernel
theorem dX8_nextWay_62 : decode cX8_nextWay 62 = .ok (.getfield 32, 3) := by decide +kernel
theorem dX8_nextWay_65 : decode cX8_nextWay 65 = .ok (.iload 4, 2) := by decide +kernel
theorem dX8_nextWay_67 : decode cX8_nextWay 67 = .ok (.iconst 1, 1) := by decide +kernel
theorem dX8_nextWay_68 : decode cX8_nextWay 68 = .ok (.isub, 1) := by decide +kernel
theorem dX8_nextWay_69 : decode cX8_nextWay 69 = .ok (.iaload, 1) := by decide +kernel
theorem dX8_nextWay_70 : decode cX8_nextWay 70 = .ok (.iconst 1, 1) := by decide +kernel
theorem dX8_nextWay_71 : decode cX8_nextWay 71 = .ok (.iadd, 1) := by decide +kernel
theorem dX8_nextWay_72 : decode cX8_nextWay 72 = .ok (.iastore, 1) := by decide +kernel
theorem dX8_nextWay_73 : decode cX8_nextWay 73 = .ok (.iinc 4 1, 3) := by decide +kernel
theorem dX8_nextWay_76 : decode cX8_nextWay 76 = .ok (.goto (-27), 3) := by decide +kernel
theorem dX8_nextWay_79 : decode cX8_nextWay 79 = .ok (.iconst 1, 1) := by decide +kernel
theorem dX8_nextWay_80 : decode cX8_nextWay 80 = .ok (.ireturn, 1) := by decide +kernel
theorem dX8_leastWith_0 : decode cX8_leastWith 0 = .ok (.iconst (-1), 1) := by decide +kernel
theorem dX8_leastWith_1 : decode cX8_leastWith 1 = .ok (.istore_n 3, 1) := by decide +kernel
theorem dX8_leastWith_2 : decode cX8_leastWith 2 = .ok (.aload_n 0, 1) := by decide +kernel
theorem dX8_leastWith_3 : decode cX8_leastWith 3 = .ok (.iload_n 1, 1) := by decide +kernel
theorem dX8_leastWith_4 : decode cX8_leastWith 4 = .ok (.iload_n 2, 1) := by decide +kernel
theorem dX8_leastWith_5 : decode cX8_leastWith 5 = .ok (.invokevirtual 78, 3) := by decide +kernel
theorem dX8_leastWith_8 : decode cX8_leastWith 8 = .ok (.istore 4, 2) := by decide +kernel
theorem dX8_leastWith_10 : decode cX8_leastWith 10 = .ok (.iload 4, 2) := by decide +kernel
theorem dX8_leastWith_12 : decode cX8_leastWith 12 = .ok (.ifCond .eq 53, 3) := by decide +kernel
theorem dX8_leastWith_15 : decode cX8_leastWith 15 = .ok (.aload_n 0, 1) := by decide +kernel
theorem dX8_leastWith_16 : decode cX8_leastWith 16 = .ok (.iload_n 1, 1) := by decide +kernel
theorem dX8_leastWith_17 : decode cX8_leastWith 17 = .ok (.iload_n 2, 1) := by decide +kernel
theorem dX8_leastWith_18 : decode cX8_leastWith 18 = .ok (.invokevirtual 82, 3) := by decide +kernel
theorem dX8_leastWith_21 : decode cX8_leastWith 21 = .ok (.istore 5, 2) := by decide +kernel
theorem dX8_leastWith_23 : decode cX8_leastWith 23 = .ok (.iload_n 3, 1) := by decide +kernel
theorem dX8_leastWith_24 : decode cX8_leastWith 24 = .ok (.iconst (-1), 1) := by decide +kernel
theorem dX8_leastWith_25 : decode cX8_leastWith 25 = .ok (.if_icmp .eq 9, 3) := by decide +kernel
theorem dX8_leastWith_28 : decode cX8_leastWith 28 = .ok (.iload 5, 2) := by decide +kernel
theorem dX8_leastWith_30 : decode cX8_leastWith 30 = .ok (.iload_n 3, 1) := by decide +kernel
theorem dX8_leastWith_31 : decode cX8_leastWith 31 = .ok (.if_icmp .ge 8, 3) := by decide +kernel
theorem dX8_leastWith_34 : decode cX8_leastWith 34 = .ok (.iload 5, 2) := by decide +kernel
theorem dX8_leastWith_36 : decode cX8_leastWith 36 = .ok (.goto 4, 3) := by decide +kernel
theorem dX8_leastWith_39 : decode cX8_leastWith 39 = .ok (.iload_n 3, 1) := by decide +kernel
theorem dX8_leastWith_40 : decode cX8_leastWith 40 = .ok (.istore_n 3, 1) := by decide +kernel
theorem dX8_leastWith_41 : decode cX8_leastWith 41 = .ok (.iload 5, 2) := by decide +kernel
theorem dX8_leastWith_43 : decode cX8_leastWith 43 = .ok (.ifCond .le 16, 3) := by decide +kernel
theorem dX8_leastWith_46 : decode cX8_leastWith 46 = .ok (.aload_n 0, 1) := by decide +kernel
theorem dX8_leastWith_47 : decode cX8_leastWith 47 = .ok (.iload_n 1, 1) := by decide +kernel
theorem dX8_leastWith_48 : decode cX8_leastWith 48 = .ok (.iload_n 2, 1) := by decide +kernel
theorem dX8_leastWith_49 : decode cX8_leastWith 49 = .ok (.invokevirtual 86, 3) := by decide +kernel
theorem dX8_leastWith_52 : decode cX8_leastWith 52 = .ok (.ifCond .eq 7, 3) := by decide +kernel
theorem dX8_leastWith_55 : decode cX8_leastWith 55 = .ok (.iconst 1, 1) := by decide +kernel
theorem dX8_leastWith_56 : decode cX8_leastWith 56 = .ok (.goto 4, 3) := by decide +kernel
theorem dX8_leastWith_59 : decode cX8_leastWith 59 = .ok (.iconst 0, 1) := by decide +kernel
theorem dX8_leastWith_60 : decode cX8_leastWith 60 = .ok (.istore 4, 2) := by decide +kernel
theorem dX8_leastWith_62 : decode cX8_leastWith 62 = .ok (.goto (-52), 3) := by decide +kernel
theorem dX8_leastWith_65 : decode cX8_leastWith 65 = .ok (.iload_n 3, 1) := by decide +kernel
theorem dX8_leastWith_66 : decode cX8_leastWith 66 = .ok (.ireturn, 1) := by decide +kernel
theorem dX8_fewestOf_0 : decode cX8_fewestOf 0 = .ok (.aload_n 0, 1) := by decide +kernel
theorem dX8_fewestOf_1 : decode cX8_fewestOf 1 = .ok (.aload_n 1, 1) := by decide +kernel
theorem dX8_fewestOf_2 : decode cX8_fewestOf 2 = .ok (.invokevirtual 89, 3) := by decide +kernel
theorem dX8_fewestOf_5 : decode cX8_fewestOf 5 = .ok (.iconst 0, 1) := by decide +kernel
theorem dX8_fewestOf_6 : decode cX8_fewestOf 6 = .ok (.istore_n 2, 1) := by decide +kernel
theorem dX8_fewestOf_7 : decode cX8_fewestOf 7 = .ok (.iload_n 2, 1) := by decide +kernel
theorem dX8_fewestOf_8 : decode cX8_fewestOf 8 = .ok (.bipush 6, 2) := by decide +kernel
theorem dX8_fewestOf_10 : decode cX8_fewestOf 10 = .ok (.if_icmp .gt 22, 3) := by decide +kernel
theorem dX8_fewestOf_13 : decode cX8_fewestOf 13 = .ok (.aload_n 0, 1) := by decide +kernel
theorem dX8_fewestOf_14 : decode cX8_fewestOf 14 = .ok (.aload_n 1, 1) := by decide +kernel
theorem dX8_fewestOf_15 : decode cX8_fewestOf 15 = .ok (.iconst 0, 1) := by decide +kernel
theorem dX8_fewestOf_16 : decode cX8_fewestOf 16 = .ok (.iaload, 1) := by decide +kernel
theorem dX8_fewestOf_17 : decode cX8_fewestOf 17 = .ok (.iload_n 2, 1) := by decide +kernel
theorem dX8_fewestOf_18 : decode cX8_fewestOf 18 = .ok (.invokevirtual 92, 3) := by decide +kernel
theorem dX8_fewestOf_21 : decode cX8_fewestOf 21 = .ok (.ifCond .ne 5, 3) := by decide +kernel
theorem dX8_fewestOf_24 : decode cX8_fewestOf 24 = .ok (.iload_n 2, 1) := by decide +kernel
theorem dX8_fewestOf_25 : decode cX8_fewestOf 25 = .ok (.ireturn, 1) := by decide +kernel
theorem dX8_fewestOf_26 : decode cX8_fewestOf 26 = .ok (.iinc 2 1, 3) := by decide +kernel
theorem dX8_fewestOf_29 : decode cX8_fewestOf 29 = .ok (.goto (-22), 3) := by decide +kernel
theorem dX8_fewestOf_32 : decode cX8_fewestOf 32 = .ok (.iconst (-1), 1) := by decide +kernel
theorem dX8_fewestOf_33 : decode cX8_fewestOf 33 = .ok (.ireturn, 1) := by decide +kernel
theorem dX8_jewelOn_0 : decode cX8_jewelOn 0 = .ok (.aload_n 0, 1) := by decide +kernel
theorem dX8_jewelOn_1 : decode cX8_jewelOn 1 = .ok (.iconst 0, 1) := by decide +kernel
theorem dX8_jewelOn_2 : decode cX8_jewelOn 2 = .ok (.iaload, 1) := by decide +kernel
theorem dX8_jewelOn_3 : decode cX8_jewelOn 3 = .ok (.istore_n 3, 1) := by decide +kernel
theorem dX8_jewelOn_4 : decode cX8_jewelOn 4 = .ok (.aload_n 0, 1) := by decide +kernel
theorem dX8_jewelOn_5 : decode cX8_jewelOn 5 = .ok (.bipush 6, 2) := by decide +kernel
theorem dX8_jewelOn_7 : decode cX8_jewelOn 7 = .ok (.iload_n 3, 1) := by decide +kernel
theorem dX8_jewelOn_8 : decode cX8_jewelOn 8 = .ok (.iadd, 1) := by decide +kernel
theorem dX8_jewelOn_9 : decode cX8_jewelOn 9 = .ok (.iload_n 1, 1) := by decide +kernel
theorem dX8_jewelOn_10 : decode cX8_jewelOn 10 = .ok (.iastore, 1) := by decide +kernel
theorem dX8_jewelOn_11 : decode cX8_jewelOn 11 = .ok (.aload_n 0, 1) := by decide +kernel
theorem dX8_jewelOn_12 : decode cX8_jewelOn 12 = .ok (.bipush 22, 2) := by decide +kernel
theorem dX8_jewelOn_14 : decode cX8_jewelOn 14 = .ok (.iload_n 3, 1) := by decide +kernel
theorem dX8_jewelOn_15 : decode cX8_jewelOn 15 = .ok (.iadd, 1) := by decide +kernel
theorem dX8_jewelOn_16 : decode cX8_jewelOn 16 = .ok (.iload_n 2, 1) := by decide +kernel
theorem dX8_jewelOn_17 : decode cX8_jewelOn 17 = .ok (.iastore, 1) := by decide +kernel
theorem dX8_jewelOn_18 : decode cX8_jewelOn 18 = .ok (.aload_n 0, 1) := by decide +kernel
theorem dX8_jewelOn_19 : decode cX8_jewelOn 19 = .ok (.iconst 0, 1) := by decide +kernel
theorem dX8_jewelOn_20 : decode cX8_jewelOn 20 = .ok (.dup2, 1) := by decide +kernel
theorem dX8_jewelOn_21 : decode cX8_jewelOn 21 = .ok (.iaload, 1) := by decide +kernel
theorem dX8_jewelOn_22 : decode cX8_jewelOn 22 = .ok (.iconst 1, 1) := by decide +kernel
theorem dX8_jewelOn_23 : decode cX8_jewelOn 23 = .ok (.iadd, 1) := by decide +kernel
theorem dX8_jewelOn_24 : decode cX8_jewelOn 24 = .ok (.iastore, 1) := by decide +kernel
theorem dX8_jewelOn_25 : decode cX8_jewelOn 25 = .ok (.aload_n 0, 1) := by decide +kernel
theorem dX8_jewelOn_26 : decode cX8_jewelOn 26 = .ok (.invokestatic 43, 3) := by decide +kernel
theorem dX8_jewelOn_29 : decode cX8_jewelOn 29 = .ok (.iload_n 3, 1) := by decide +kernel
theorem dX8_jewelOn_30 : decode cX8_jewelOn 30 = .ok (.ireturn, 1) := by decide +kernel
theorem dX8_exchangeOn_0 : decode cX8_exchangeOn 0 = .ok (.aload_n 0, 1) := by decide +kernel
theorem dX8_exchangeOn_1 : decode cX8_exchangeOn 1 = .ok (.bipush 6, 2) := by decide +kernel
theorem dX8_exchangeOn_3 : decode cX8_exchangeOn 3 = .ok (.iload_n 1, 1) := by decide +kernel
theorem dX8_exchangeOn_4 : decode cX8_exchangeOn 4 = .ok (.iadd, 1) := by decide +kernel
theorem dX8_exchangeOn_5 : decode cX8_exchangeOn 5 = .ok (.iaload, 1) := by decide +kernel
theorem dX8_exchangeOn_6 : decode cX8_exchangeOn 6 = .ok (.istore_n 3, 1) := by decide +kernel
theorem dX8_exchangeOn_7 : decode cX8_exchangeOn 7 = .ok (.aload_n 0, 1) := by decide +kernel
theorem dX8_exchangeOn_8 : decode cX8_exchangeOn 8 = .ok (.bipush 22, 2) := by decide +kernel
theorem dX8_exchangeOn_10 : decode cX8_exchangeOn 10 = .ok (.iload_n 1, 1) := by decide +kernel
theorem dX8_exchangeOn_11 : decode cX8_exchangeOn 11 = .ok (.iadd, 1) := by decide +kernel
theorem dX8_exchangeOn_12 : decode cX8_exchangeOn 12 = .ok (.iaload, 1) := by decide +kernel
theorem dX8_exchangeOn_13 : decode cX8_exchangeOn 13 = .ok (.istore 4, 2) := by decide +kernel
theorem dX8_exchangeOn_15 : decode cX8_exchangeOn 15 = .ok (.aload_n 0, 1) := by decide +kernel
theorem dX8_exchangeOn_16 : decode cX8_exchangeOn 16 = .ok (.bipush 6, 2) := by decide +kernel
theorem dX8_exchangeOn_18 : decode cX8_exchangeOn 18 = .ok (.iload_n 1, 1) := by decide +kernel
theorem dX8_exchangeOn_19 : decode cX8_exchangeOn 19 = .ok (.iadd, 1) := by decide +kernel
theorem dX8_exchangeOn_20 : decode cX8_exchangeOn 20 = .ok (.aload_n 0, 1) := by decide +kernel
theorem dX8_exchangeOn_21 : decode cX8_exchangeOn 21 = .ok (.bipush 6, 2) := by decide +kernel
theorem dX8_exchangeOn_23 : decode cX8_exchangeOn 23 = .ok (.iload_n 2, 1) := by decide +kernel
theorem dX8_exchangeOn_24 : decode cX8_exchangeOn 24 = .ok (.iadd, 1) := by decide +kernel
theorem dX8_exchangeOn_25 : decode cX8_exchangeOn 25 = .ok (.iaload, 1) := by decide +kernel
theorem dX8_exchangeOn_26 : decode cX8_exchangeOn 26 = .ok (.iastore, 1) := by decide +kernel
theorem dX8_exchangeOn_27 : decode cX8_exchangeOn 27 = .ok (.aload_n 0, 1) := by decide +kernel
theorem dX8_exchangeOn_28 : decode cX8_exchangeOn 28 = .ok (.bipush 22, 2) := by decide +kernel
theorem dX8_exchangeOn_30 : decode cX8_exchangeOn 30 = .ok (.iload_n 1, 1) := by decide +kernel
theorem dX8_exchangeOn_31 : decode cX8_exchangeOn 31 = .ok (.iadd, 1) := by decide +kernel
theorem dX8_exchangeOn_32 : decode cX8_exchangeOn 32 = .ok (.aload_n 0, 1) := by decide +kernel
theorem dX8_exchangeOn_33 : decode cX8_exchangeOn 33 = .ok (.bipush 22, 2) := by decide +kernel
theorem dX8_exchangeOn_35 : decode cX8_exchangeOn 35 = .ok (.iload_n 2, 1) := by decide +kernel
theorem dX8_exchangeOn_36 : decode cX8_exchangeOn 36 = .ok (.iadd, 1) := by decide +kernel
theorem dX8_exchangeOn_37 : decode cX8_exchangeOn 37 = .ok (.iaload, 1) := by decide +kernel
theorem dX8_exchangeOn_38 : decode cX8_exchangeOn 38 = .ok (.iastore, 1) := by decide +kernel
theorem dX8_exchangeOn_39 : decode cX8_exchangeOn 39 = .ok (.aload_n 0, 1) := by decide +kernel
theorem dX8_exchangeOn_40 : decode cX8_exchangeOn 40 = .ok (.bipush 6, 2) := by decide +kernel
theorem dX8_exchangeOn_42 : decode cX8_exchangeOn 42 = .ok (.iload_n 2, 1) := by decide +kernel
theorem dX8_exchangeOn_43 : decode cX8_exchangeOn 43 = .ok (.iadd, 1) := by decide +kernel
theorem dX8_exchangeOn_44 : decode cX8_exchangeOn 44 = .ok (.iload_n 3, 1) := by decide +kernel
theorem dX8_exchangeOn_45 : decode cX8_exchangeOn 45 = .ok (.iastore, 1) := by decide +kernel
theorem dX8_exchangeOn_46 : decode cX8_exchangeOn 46 = .ok (.aload_n 0, 1) := by decide +kernel
theorem dX8_exchangeOn_47 : decode cX8_exchangeOn 47 = .ok (.bipush 22, 2) := by decide +kernel
theorem dX8_exchangeOn_49 : decode cX8_exchangeOn 49 = .ok (.iload_n 2, 1) := by decide +kernel
theorem dX8_exchangeOn_50 : decode cX8_exchangeOn 50 = .ok (.iadd, 1) := by decide +kernel
theorem dX8_exchangeOn_51 : decode cX8_exchangeOn 51 = .ok (.iload 4, 2) := by decide +kernel
theorem dX8_exchangeOn_53 : decode cX8_exchangeOn 53 = .ok (.iastore, 1) := by decide +kernel
theorem dX8_exchangeOn_54 : decode cX8_exchangeOn 54 = .ok (.aload_n 0, 1) := by decide +kernel
theorem dX8_exchangeOn_55 : decode cX8_exchangeOn 55 = .ok (.invokestatic 95, 3) := by decide +kernel
theorem dX8_exchangeOn_58 : decode cX8_exchangeOn 58 = .ok (.ireturn, 1) := by decide +kernel
theorem dX8_breakOn_0 : decode cX8_breakOn 0 = .ok (.aload_n 0, 1) := by decide +kernel
theorem dX8_breakOn_1 : decode cX8_breakOn 1 = .ok (.iconst 1, 1) := by decide +kernel
theorem dX8_breakOn_2 : decode cX8_breakOn 2 = .ok (.iaload, 1) := by decide +kernel
theorem dX8_breakOn_3 : decode cX8_breakOn 3 = .ok (.istore_n 2, 1) := by decide +kernel
theorem dX8_breakOn_4 : decode cX8_breakOn 4 = .ok (.aload_n 0, 1) := by decide +kernel
theorem dX8_breakOn_5 : decode cX8_breakOn 5 = .ok (.iconst 1, 1) := by decide +kernel
theorem dX8_breakOn_6 : decode cX8_breakOn 6 = .ok (.iload_n 1, 1) := by decide +kernel
theorem dX8_breakOn_7 : decode cX8_breakOn 7 = .ok (.iastore, 1) := by decide +kernel
theorem dX8_breakOn_8 : decode cX8_breakOn 8 = .ok (.aload_n 0, 1) := by decide +kernel
theorem dX8_breakOn_9 : decode cX8_breakOn 9 = .ok (.invokestatic 43, 3) := by decide +kernel
theorem dX8_breakOn_12 : decode cX8_breakOn 12 = .ok (.iload_n 2, 1) := by decide +kernel
theorem dX8_breakOn_13 : decode cX8_breakOn 13 = .ok (.ireturn, 1) := by decide +kernel
theorem dX8_roundOn_0 : decode cX8_roundOn 0 = .ok (.iconst 0, 1) := by decide +kernel
theorem dX8_roundOn_1 : decode cX8_roundOn 1 = .ok (.istore_n 1, 1) := by decide +kernel
theorem dX8_roundOn_2 : decode cX8_roundOn 2 = .ok (.iload_n 1, 1) := by decide +kernel
theorem dX8_roundOn_3 : decode cX8_roundOn 3 = .ok (.aload_n 0, 1) := by decide +kernel
theorem dX8_roundOn_4 : decode cX8_roundOn 4 = .ok (.iconst 0, 1) := by decide +kernel
theorem dX8_roundOn_5 : decode cX8_roundOn 5 = .ok (.iaload, 1) := by decide +kernel
theorem dX8_roundOn_6 : decode cX8_roundOn 6 = .ok (.iconst 2, 1) := by decide +kernel
theorem dX8_roundOn_7 : decode cX8_roundOn 7 = .ok (.idiv, 1) := by decide +kernel
theorem dX8_roundOn_8 : decode cX8_roundOn 8 = .ok (.if_icmp .ge 22, 3) := by decide +kernel
theorem dX8_roundOn_11 : decode cX8_roundOn 11 = .ok (.aload_n 0, 1) := by decide +kernel
theorem dX8_roundOn_12 : decode cX8_roundOn 12 = .ok (.iload_n 1, 1) := by decide +kernel
theorem dX8_roundOn_13 : decode cX8_roundOn 13 = .ok (.aload_n 0, 1) := by decide +kernel
theorem dX8_roundOn_14 : decode cX8_roundOn 14 = .ok (.iconst 0, 1) := by decide +kernel
theorem dX8_roundOn_15 : decode cX8_roundOn 15 = .ok (.iaload, 1) := by decide +kernel
theorem dX8_roundOn_16 : decode cX8_roundOn 16 = .ok (.iconst 1, 1) := by decide +kernel
theorem dX8_roundOn_17 : decode cX8_roundOn 17 = .ok (.isub, 1) := by decide +kernel
theorem dX8_roundOn_18 : decode cX8_roundOn 18 = .ok (.iload_n 1, 1) := by decide +kernel
theorem dX8_roundOn_19 : decode cX8_roundOn 19 = .ok (.isub, 1) := by decide +kernel
theorem dX8_roundOn_20 : decode cX8_roundOn 20 = .ok (.invokestatic 98, 3) := by decide +kernel
theorem dX8_roundOn_23 : decode cX8_roundOn 23 = .ok (.pop, 1) := by decide +kernel
theorem dX8_roundOn_24 : decode cX8_roundOn 24 = .ok (.iinc 1 1, 3) := by decide +kernel
theorem dX8_roundOn_27 : decode cX8_roundOn 27 = .ok (.goto (-25), 3) := by decide +kernel
theorem dX8_roundOn_30 : decode cX8_roundOn 30 = .ok (.aload_n 0, 1) := by decide +kernel
theorem dX8_roundOn_31 : decode cX8_roundOn 31 = .ok (.invokestatic 43, 3) := by decide +kernel
theorem dX8_roundOn_34 : decode cX8_roundOn 34 = .ok (.aload_n 0, 1) := by decide +kernel
theorem dX8_roundOn_35 : decode cX8_roundOn 35 = .ok (.iconst 0, 1) := by decide +kernel
theorem dX8_roundOn_36 : decode cX8_roundOn 36 = .ok (.iaload, 1) := by decide +kernel
theorem dX8_roundOn_37 : decode cX8_roundOn 37 = .ok (.ireturn, 1) := by decide +kernel
theorem dX8_cutOn_0 : decode cX8_cutOn 0 = .ok (.iload_n 2, 1) := by decide +kernel
theorem dX8_cutOn_1 : decode cX8_cutOn 1 = .ok (.ifCond .ne 73, 3) := by decide +kernel
theorem dX8_cutOn_4 : decode cX8_cutOn 4 = .ok (.aload_n 0, 1) := by decide +kernel
theorem dX8_cutOn_5 : decode cX8_cutOn 5 = .ok (.iload_n 1, 1) := by decide +kernel
theorem dX8_cutOn_6 : decode cX8_cutOn 6 = .ok (.invokestatic 60, 3) := by decide +kernel
theorem dX8_cutOn_9 : decode cX8_cutOn 9 = .ok (.ifCond .eq 65, 3) := by decide +kernel
theorem dX8_cutOn_12 : decode cX8_cutOn 12 = .ok (.aload_n 0, 1) := by decide +kernel
theorem dX8_cutOn_13 : decode cX8_cutOn 13 = .ok (.bipush 38, 2) := by decide +kernel
theorem dX8_cutOn_15 : decode cX8_cutOn 15 = .ok (.iload_n 1, 1) := by decide +kernel
theorem dX8_cutOn_16 : decode cX8_cutOn 16 = .ok (.iadd, 1) := by decide +kernel
theorem dX8_cutOn_17 : decode cX8_cutOn 17 = .ok (.iconst 1, 1) := by decide +kernel
theorem dX8_cutOn_18 : decode cX8_cutOn 18 = .ok (.isub, 1) := by decide +kernel
theorem dX8_cutOn_19 : decode cX8_cutOn 19 = .ok (.iaload, 1) := by decide +kernel
theorem dX8_cutOn_20 : decode cX8_cutOn 20 = .ok (.istore_n 3, 1) := by decide +kernel
theorem dX8_cutOn_21 : decode cX8_cutOn 21 = .ok (.aload_n 0, 1) := by decide +kernel
theorem dX8_cutOn_22 : decode cX8_cutOn 22 = .ok (.iload_n 1, 1) := by decide +kernel
theorem dX8_cutOn_23 : decode cX8_cutOn 23 = .ok (.invokestatic 64, 3) := by decide +kernel
theorem dX8_cutOn_26 : decode cX8_cutOn 26 = .ok (.istore 4, 2) := by decide +kernel
theorem dX8_cutOn_28 : decode cX8_cutOn 28 = .ok (.iload_n 1, 1) := by decide +kernel
theorem dX8_cutOn_29 : decode cX8_cutOn 29 = .ok (.istore 5, 2) := by decide +kernel
theorem dX8_cutOn_31 : decode cX8_cutOn 31 = .ok (.iload 5, 2) := by decide +kernel
theorem dX8_cutOn_33 : decode cX8_cutOn 33 = .ok (.aload_n 0, 1) := by decide +kernel
theorem dX8_cutOn_34 : decode cX8_cutOn 34 = .ok (.iconst 0, 1) := by decide +kernel
theorem dX8_cutOn_35 : decode cX8_cutOn 35 = .ok (.iaload, 1) := by decide +kernel
theorem dX8_cutOn_36 : decode cX8_cutOn 36 = .ok (.if_icmp .ge 38, 3) := by decide +kernel
theorem dX8_cutOn_39 : decode cX8_cutOn 39 = .ok (.aload_n 0, 1) := by decide +kernel
theorem dX8_cutOn_40 : decode cX8_cutOn 40 = .ok (.bipush 38, 2) := by decide +kernel
theorem dX8_cutOn_42 : decode cX8_cutOn 42 = .ok (.iload 5, 2) := by decide +kernel
theorem dX8_cutOn_44 : decode cX8_cutOn 44 = .ok (.iadd, 1) := by decide +kernel
theorem dX8_cutOn_45 : decode cX8_cutOn 45 = .ok (.aload_n 0, 1) := by decide +kernel
theorem dX8_cutOn_46 : decode cX8_cutOn 46 = .ok (.iload 5, 2) := by decide +kernel
theorem dX8_cutOn_48 : decode cX8_cutOn 48 = .ok (.invokestatic 64, 3) := by decide +kernel
theorem dX8_cutOn_51 : decode cX8_cutOn 51 = .ok (.iload 4, 2) := by decide +kernel
theorem dX8_cutOn_53 : decode cX8_cutOn 53 = .ok (.if_icmp .ne 7, 3) := by decide +kernel
theorem dX8_cutOn_56 : decode cX8_cutOn 56 = .ok (.iload_n 3, 1) := by decide +kernel
theorem dX8_cutOn_57 : decode cX8_cutOn 57 = .ok (.goto 10, 3) := by decide +kernel
theorem dX8_cutOn_60 : decode cX8_cutOn 60 = .ok (.aload_n 0, 1) := by decide +kernel
theorem dX8_cutOn_61 : decode cX8_cutOn 61 = .ok (.bipush 38, 2) := by decide +kernel
theorem dX8_cutOn_63 : decode cX8_cutOn 63 = .ok (.iload 5, 2) := by decide +kernel
theorem dX8_cutOn_65 : decode cX8_cutOn 65 = .ok (.iadd, 1) := by decide +kernel
theorem dX8_cutOn_66 : decode cX8_cutOn 66 = .ok (.iaload, 1) := by decide +kernel
theorem dX8_cutOn_67 : decode cX8_cutOn 67 = .ok (.iastore, 1) := by decide +kernel
theorem dX8_cutOn_68 : decode cX8_cutOn 68 = .ok (.iinc 5 1, 3) := by decide +kernel
theorem dX8_cutOn_71 : decode cX8_cutOn 71 = .ok (.goto (-40), 3) := by decide +kernel
theorem dX8_cutOn_74 : decode cX8_cutOn 74 = .ok (.aload_n 0, 1) := by decide +kernel
theorem dX8_cutOn_75 : decode cX8_cutOn 75 = .ok (.iconst 5, 1) := by decide +kernel
theorem dX8_cutOn_76 : decode cX8_cutOn 76 = .ok (.iload_n 2, 1) := by decide +kernel
theorem dX8_cutOn_77 : decode cX8_cutOn 77 = .ok (.ifCond .eq 13, 3) := by decide +kernel
theorem dX8_cutOn_80 : decode cX8_cutOn 80 = .ok (.aload_n 0, 1) := by decide +kernel
theorem dX8_cutOn_81 : decode cX8_cutOn 81 = .ok (.iconst 5, 1) := by decide +kernel
theorem dX8_cutOn_82 : decode cX8_cutOn 82 = .ok (.iaload, 1) := by decide +kernel
theorem dX8_cutOn_83 : decode cX8_cutOn 83 = .ok (.iconst 1, 1) := by decide +kernel
theorem dX8_cutOn_84 : decode cX8_cutOn 84 = .ok (.iload_n 1, 1) := by decide +kernel
theorem dX8_cutOn_85 : decode cX8_cutOn 85 = .ok (.ishl, 1) := by decide +kernel
theorem dX8_cutOn_86 : decode cX8_cutOn 86 = .ok (.ior, 1) := by decide +kernel
theorem dX8_cutOn_87 : decode cX8_cutOn 87 = .ok (.goto 12, 3) := by decide +kernel
theorem dX8_cutOn_90 : decode cX8_cutOn 90 = .ok (.aload_n 0, 1) := by decide +kernel
theorem dX8_cutOn_91 : decode cX8_cutOn 91 = .ok (.iconst 5, 1) := by decide +kernel
theorem dX8_cutOn_92 : decode cX8_cutOn 92 = .ok (.iaload, 1) := by decide +kernel
theorem dX8_cutOn_93 : decode cX8_cutOn 93 = .ok (.iconst 1, 1) := by decide +kernel
theorem dX8_cutOn_94 : decode cX8_cutOn 94 = .ok (.iload_n 1, 1) := by decide +kernel
theorem dX8_cutOn_95 : decode cX8_cutOn 95 = .ok (.ishl, 1) := by decide +kernel
theorem dX8_cutOn_96 : decode cX8_cutOn 96 = .ok (.iconst (-1), 1) := by decide +kernel
theorem dX8_cutOn_97 : decode cX8_cutOn 97 = .ok (.ixor, 1) := by decide +kernel
theorem dX8_cutOn_98 : decode cX8_cutOn 98 = .ok (.iand, 1) := by decide +kernel
theorem dX8_cutOn_99 : decode cX8_cutOn 99 = .ok (.iastore, 1) := by decide +kernel
theorem dX8_cutOn_100 : decode cX8_cutOn 100 = .ok (.aload_n 0, 1) := by decide +kernel
theorem dX8_cutOn_101 : decode cX8_cutOn 101 = .ok (.invokestatic 56, 3) := by decide +kernel
theorem dX8_cutOn_104 : decode cX8_cutOn 104 = .ok (.ireturn, 1) := by decide +kernel
theorem dX8_giveOn_0 : decode cX8_giveOn 0 = .ok (.iconst 0, 1) := by decide +kernel
theorem dX8_giveOn_1 : decode cX8_giveOn 1 = .ok (.istore_n 3, 1) := by decide +kernel
theorem dX8_giveOn_2 : decode cX8_giveOn 2 = .ok (.iload_n 3, 1) := by decide +kernel
theorem dX8_giveOn_3 : decode cX8_giveOn 3 = .ok (.aload_n 0, 1) := by decide +kernel
theorem dX8_giveOn_4 : decode cX8_giveOn 4 = .ok (.iconst 0, 1) := by decide +kernel
theorem dX8_giveOn_5 : decode cX8_giveOn 5 = .ok (.iaload, 1) := by decide +kernel
theorem dX8_giveOn_6 : decode cX8_giveOn 6 = .ok (.if_icmp .ge 34, 3) := by decide +kernel
theorem dX8_giveOn_9 : decode cX8_giveOn 9 = .ok (.aload_n 0, 1) := by decide +kernel
theorem dX8_giveOn_10 : decode cX8_giveOn 10 = .ok (.bipush 38, 2) := by decide +kernel
theorem dX8_giveOn_12 : decode cX8_giveOn 12 = .ok (.iload_n 3, 1) := by decide +kernel
theorem dX8_giveOn_13 : decode cX8_giveOn 13 = .ok (.iadd, 1) := by decide +kernel
theorem dX8_giveOn_14 : decode cX8_giveOn 14 = .ok (.aload_n 0, 1) := by decide +kernel
theorem dX8_giveOn_15 : decode cX8_giveOn 15 = .ok (.iload_n 3, 1) := by decide +kernel
theorem dX8_giveOn_16 : decode cX8_giveOn 16 = .ok (.invokestatic 64, 3) := by decide +kernel
theorem dX8_giveOn_19 : decode cX8_giveOn 19 = .ok (.iload_n 1, 1) := by decide +kernel
theorem dX8_giveOn_20 : decode cX8_giveOn 20 = .ok (.if_icmp .ne 7, 3) := by decide +kernel
theorem dX8_giveOn_23 : decode cX8_giveOn 23 = .ok (.iload_n 2, 1) := by decide +kernel
theorem dX8_giveOn_24 : decode cX8_giveOn 24 = .ok (.goto 9, 3) := by decide +kernel
theorem dX8_giveOn_27 : decode cX8_giveOn 27 = .ok (.aload_n 0, 1) := by decide +kernel
theorem dX8_giveOn_28 : decode cX8_giveOn 28 = .ok (.bipush 38, 2) := by decide +kernel
theorem dX8_giveOn_30 : decode cX8_giveOn 30 = .ok (.iload_n 3, 1) := by decide +kernel
theorem dX8_giveOn_31 : decode cX8_giveOn 31 = .ok (.iadd, 1) := by decide +kernel
theorem dX8_giveOn_32 : decode cX8_giveOn 32 = .ok (.iaload, 1) := by decide +kernel
theorem dX8_giveOn_33 : decode cX8_giveOn 33 = .ok (.iastore, 1) := by decide +kernel
theorem dX8_giveOn_34 : decode cX8_giveOn 34 = .ok (.iinc 3 1, 3) := by decide +kernel
theorem dX8_giveOn_37 : decode cX8_giveOn 37 = .ok (.goto (-35), 3) := by decide +kernel
theorem dX8_giveOn_40 : decode cX8_giveOn 40 = .ok (.aload_n 0, 1) := by decide +kernel
theorem dX8_giveOn_41 : decode cX8_giveOn 41 = .ok (.invokestatic 95, 3) := by decide +kernel
theorem dX8_giveOn_44 : decode cX8_giveOn 44 = .ok (.ireturn, 1) := by decide +kernel
theorem dX8_whyNot_0 : decode cX8_whyNot 0 = .ok (.aload_n 0, 1) := by decide +kernel
theorem dX8_whyNot_1 : decode cX8_whyNot 1 = .ok (.bipush 38, 2) := by decide +kernel
theorem dX8_whyNot_3 : decode cX8_whyNot 3 = .ok (.aload_n 0, 1) := by decide +kernel
theorem dX8_whyNot_4 : decode cX8_whyNot 4 = .ok (.iload_n 1, 1) := by decide +kernel
theorem dX8_whyNot_5 : decode cX8_whyNot 5 = .ok (.invokestatic 101, 3) := by decide +kernel
theorem dX8_whyNot_8 : decode cX8_whyNot 8 = .ok (.iadd, 1) := by decide +kernel
theorem dX8_whyNot_9 : decode cX8_whyNot 9 = .ok (.iaload, 1) := by decide +kernel
theorem dX8_whyNot_10 : decode cX8_whyNot 10 = .ok (.istore_n 2, 1) := by decide +kernel
theorem dX8_whyNot_11 : decode cX8_whyNot 11 = .ok (.iload_n 2, 1) := by decide +kernel
theorem dX8_whyNot_12 : decode cX8_whyNot 12 = .ok (.iconst (-1), 1) := by decide +kernel
theorem dX8_whyNot_13 : decode cX8_whyNot 13 = .ok (.if_icmp .ne 7, 3) := by decide +kernel
theorem dX8_whyNot_16 : decode cX8_whyNot 16 = .ok (.iconst 0, 1) := by decide +kernel
theorem dX8_whyNot_17 : decode cX8_whyNot 17 = .ok (.goto 15, 3) := by decide +kernel
theorem dX8_whyNot_20 : decode cX8_whyNot 20 = .ok (.iload_n 2, 1) := by decide +kernel
theorem dX8_whyNot_21 : decode cX8_whyNot 21 = .ok (.aload_n 0, 1) := by decide +kernel
theorem dX8_whyNot_22 : decode cX8_whyNot 22 = .ok (.iconst 2, 1) := by decide +kernel
theorem dX8_whyNot_23 : decode cX8_whyNot 23 = .ok (.iaload, 1) := by decide +kernel
theorem dX8_whyNot_24 : decode cX8_whyNot 24 = .ok (.if_icmp .ne 7, 3) := by decide +kernel
theorem dX8_whyNot_27 : decode cX8_whyNot 27 = .ok (.iconst 2, 1) := by decide +kernel
theorem dX8_whyNot_28 : decode cX8_whyNot 28 = .ok (.goto 4, 3) := by decide +kernel
theorem dX8_whyNot_31 : decode cX8_whyNot 31 = .ok (.iconst 1, 1) := by decide +kernel
theorem dX8_whyNot_32 : decode cX8_whyNot 32 = .ok (.ireturn, 1) := by decide +kernel
theorem dX8_takeOn_0 : decode cX8_takeOn 0 = .ok (.aload_n 0, 1) := by decide +kernel
theorem dX8_takeOn_1 : decode cX8_takeOn 1 = .ok (.iload_n 1, 1) := by decide +kernel
theorem dX8_takeOn_2 : decode cX8_takeOn 2 = .ok (.invokestatic 104, 3) := by decide +kernel
theorem dX8_takeOn_5 : decode cX8_takeOn 5 = .ok (.istore_n 2, 1) := by decide +kernel
theorem dX8_takeOn_6 : decode cX8_takeOn 6 = .ok (.iload_n 2, 1) := by decide +kernel
theorem dX8_takeOn_7 : decode cX8_takeOn 7 = .ok (.ifCond .ne 23, 3) := by decide +kernel
theorem dX8_takeOn_10 : decode cX8_takeOn 10 = .ok (.aload_n 0, 1) := by decide +kernel
theorem dX8_takeOn_11 : decode cX8_takeOn 11 = .ok (.iload_n 1, 1) := by decide +kernel
theorem dX8_takeOn_12 : decode cX8_takeOn 12 = .ok (.aload_n 0, 1) := by decide +kernel
theorem dX8_takeOn_13 : decode cX8_takeOn 13 = .ok (.iconst 2, 1) := by decide +kernel
theorem dX8_takeOn_14 : decode cX8_takeOn 14 = .ok (.iaload, 1) := by decide +kernel
theorem dX8_takeOn_15 : decode cX8_takeOn 15 = .ok (.invokestatic 107, 3) := by decide +kernel
theorem dX8_takeOn_18 : decode cX8_takeOn 18 = .ok (.pop, 1) := by decide +kernel
theorem dX8_takeOn_19 : decode cX8_takeOn 19 = .ok (.aload_n 0, 1) := by decide +kernel
theorem dX8_takeOn_20 : decode cX8_takeOn 20 = .ok (.iconst 2, 1) := by decide +kernel
theorem dX8_takeOn_21 : decode cX8_takeOn 21 = .ok (.iconst 1, 1) := by decide +kernel
theorem dX8_takeOn_22 : decode cX8_takeOn 22 = .ok (.aload_n 0, 1) := by decide +kernel
theorem dX8_takeOn_23 : decode cX8_takeOn 23 = .ok (.iconst 2, 1) := by decide +kernel
theorem dX8_takeOn_24 : decode cX8_takeOn 24 = .ok (.iaload, 1) := by decide +kernel
theorem dX8_takeOn_25 : decode cX8_takeOn 25 = .ok (.isub, 1) := by decide +kernel
theorem dX8_takeOn_26 : decode cX8_takeOn 26 = .ok (.iastore, 1) := by decide +kernel
theorem dX8_takeOn_27 : decode cX8_takeOn 27 = .ok (.goto 10, 3) := by decide +kernel
theorem dX8_takeOn_30 : decode cX8_takeOn 30 = .ok (.aload_n 0, 1) := by decide +kernel
theorem dX8_takeOn_31 : decode cX8_takeOn 31 = .ok (.iconst 3, 1) := by decide +kernel
theorem dX8_takeOn_32 : decode cX8_takeOn 32 = .ok (.dup2, 1) := by decide +kernel
theorem dX8_takeOn_33 : decode cX8_takeOn 33 = .ok (.iaload, 1) := by decide +kernel
theorem dX8_takeOn_34 : decode cX8_takeOn 34 = .ok (.iconst 1, 1) := by decide +kernel
theorem dX8_takeOn_35 : decode cX8_takeOn 35 = .ok (.iadd, 1) := by decide +kernel
theorem dX8_takeOn_36 : decode cX8_takeOn 36 = .ok (.iastore, 1) := by decide +kernel
theorem dX8_takeOn_37 : decode cX8_takeOn 37 = .ok (.iload_n 2, 1) := by decide +kernel
theorem dX8_takeOn_38 : decode cX8_takeOn 38 = .ok (.ireturn, 1) := by decide +kernel
theorem dX8_dealOn_0 : decode cX8_dealOn 0 = .ok (.iconst 0, 1) := by decide +kernel
theorem dX8_dealOn_1 : decode cX8_dealOn 1 = .ok (.istore_n 2, 1) := by decide +kernel
theorem dX8_dealOn_2 : decode cX8_dealOn 2 = .ok (.iload_n 2, 1) := by decide +kernel
theorem dX8_dealOn_3 : decode cX8_dealOn 3 = .ok (.aload_n 0, 1) := by decide +kernel
theorem dX8_dealOn_4 : decode cX8_dealOn 4 = .ok (.iconst 0, 1) := by decide +kernel
theorem dX8_dealOn_5 : decode cX8_dealOn 5 = .ok (.iaload, 1) := by decide +kernel
theorem dX8_dealOn_6 : decode cX8_dealOn 6 = .ok (.if_icmp .ge 24, 3) := by decide +kernel
theorem dX8_dealOn_9 : decode cX8_dealOn 9 = .ok (.aload_n 0, 1) := by decide +kernel
theorem dX8_dealOn_10 : decode cX8_dealOn 10 = .ok (.bipush 38, 2) := by decide +kernel
theorem dX8_dealOn_12 : decode cX8_dealOn 12 = .ok (.iload_n 2, 1) := by decide +kernel
theorem dX8_dealOn_13 : decode cX8_dealOn 13 = .ok (.iadd, 1) := by decide +kernel
theorem dX8_dealOn_14 : decode cX8_dealOn 14 = .ok (.iload_n 1, 1) := by decide +kernel
theorem dX8_dealOn_15 : decode cX8_dealOn 15 = .ok (.aload_n 0, 1) := by decide +kernel
theorem dX8_dealOn_16 : decode cX8_dealOn 16 = .ok (.iload_n 2, 1) := by decide +kernel
theorem dX8_dealOn_17 : decode cX8_dealOn 17 = .ok (.invokestatic 64, 3) := by decide +kernel
theorem dX8_dealOn_20 : decode cX8_dealOn 20 = .ok (.iadd, 1) := by decide +kernel
theorem dX8_dealOn_21 : decode cX8_dealOn 21 = .ok (.iconst 2, 1) := by decide +kernel
theorem dX8_dealOn_22 : decode cX8_dealOn 22 = .ok (.irem, 1) := by decide +kernel
theorem dX8_dealOn_23 : decode cX8_dealOn 23 = .ok (.iastore, 1) := by decide +kernel
theorem dX8_dealOn_24 : decode cX8_dealOn 24 = .ok (.iinc 2 1, 3) := by decide +kernel
theorem dX8_dealOn_27 : decode cX8_dealOn 27 = .ok (.goto (-25), 3) := by decide +kernel
theorem dX8_dealOn_30 : decode cX8_dealOn 30 = .ok (.aload_n 0, 1) := by decide +kernel
theorem dX8_dealOn_31 : decode cX8_dealOn 31 = .ok (.invokestatic 95, 3) := by decide +kernel
theorem dX8_dealOn_34 : decode cX8_dealOn 34 = .ok (.ireturn, 1) := by decide +kernel
theorem dX8_append_0 : decode cX8_append 0 = .ok (.aload_n 0, 1) := by decide +kernel
theorem dX8_append_1 : decode cX8_append 1 = .ok (.iload_n 1, 1) := by decide +kernel
theorem dX8_append_2 : decode cX8_append 2 = .ok (.i2l, 1) := by decide +kernel
theorem dX8_append_3 : decode cX8_append 3 = .ok (.lconst 0, 1) := by decide +kernel
theorem dX8_append_4 : decode cX8_append 4 = .ok (.ldc2_w 110, 3) := by decide +kernel
theorem dX8_append_7 : decode cX8_append 7 = .ok (.invokestatic 46, 3) := by decide +kernel
theorem dX8_append_10 : decode cX8_append 10 = .ok (.ifCond .ne 7, 3) := by decide +kernel
theorem dX8_append_13 : decode cX8_append 13 = .ok (.iconst 1, 1) := by decide +kernel
theorem dX8_append_14 : decode cX8_append 14 = .ok (.goto 17, 3) := by decide +kernel
theorem dX8_append_17 : decode cX8_append 17 = .ok (.aload_n 0, 1) := by decide +kernel
theorem dX8_append_18 : decode cX8_append 18 = .ok (.getfield 112, 3) := by decide +kernel
theorem dX8_append_21 : decode cX8_append 21 = .ok (.bipush 120, 2) := by decide +kernel
theorem dX8_append_23 : decode cX8_append 23 = .ok (.if_icmp .ne 7, 3) := by decide +kernel
theorem dX8_append_26 : decode cX8_append 26 = .ok (.iconst 2, 1) := by decide +kernel
theorem dX8_append_27 : decode cX8_append 27 = .ok (.goto 4, 3) := by decide +kernel
theorem dX8_append_30 : decode cX8_append 30 = .ok (.iconst 0, 1) := by decide +kernel
theorem dX8_append_31 : decode cX8_append 31 = .ok (.invokevirtual 115, 3) := by decide +kernel
theorem dX8_append_34 : decode cX8_append 34 = .ok (.ifCond .eq 5, 3) := by decide +kernel
theorem dX8_append_37 : decode cX8_append 37 = .ok (.iconst 0, 1) := by decide +kernel
theorem dX8_append_38 : decode cX8_append 38 = .ok (.ireturn, 1) := by decide +kernel
theorem dX8_append_39 : decode cX8_append 39 = .ok (.aload_n 0, 1) := by decide +kernel
theorem dX8_append_40 : decode cX8_append 40 = .ok (.getfield 7, 3) := by decide +kernel
theorem dX8_append_43 : decode cX8_append 43 = .ok (.aload_n 0, 1) := by decide +kernel
theorem dX8_append_44 : decode cX8_append 44 = .ok (.getfield 112, 3) := by decide +kernel
theorem dX8_append_47 : decode cX8_append 47 = .ok (.iload_n 1, 1) := by decide +kernel
theorem dX8_append_48 : decode cX8_append 48 = .ok (.iastore, 1) := by decide +kernel
theorem dX8_append_49 : decode cX8_append 49 = .ok (.aload_n 0, 1) := by decide +kernel
theorem dX8_append_50 : decode cX8_append 50 = .ok (.dup, 1) := by decide +kernel
theorem dX8_append_51 : decode cX8_append 51 = .ok (.getfield 112, 3) := by decide +kernel
theorem dX8_append_54 : decode cX8_append 54 = .ok (.iconst 1, 1) := by decide +kernel
theorem dX8_append_55 : decode cX8_append 55 = .ok (.iadd, 1) := by decide +kernel
theorem dX8_append_56 : decode cX8_append 56 = .ok (.putfield 112, 3) := by decide +kernel
theorem dX8_append_59 : decode cX8_append 59 = .ok (.aload_n 0, 1) := by decide +kernel
theorem dX8_append_60 : decode cX8_append 60 = .ok (.getfield 112, 3) := by decide +kernel
theorem dX8_append_63 : decode cX8_append 63 = .ok (.ireturn, 1) := by decide +kernel
theorem dX8_clearText_0 : decode cX8_clearText 0 = .ok (.aload_n 0, 1) := by decide +kernel
theorem dX8_clearText_1 : decode cX8_clearText 1 = .ok (.iconst 0, 1) := by decide +kernel
theorem dX8_clearText_2 : decode cX8_clearText 2 = .ok (.putfield 39, 3) := by decide +kernel
theorem dX8_clearText_5 : decode cX8_clearText 5 = .ok (.aload_n 0, 1) := by decide +kernel
theorem dX8_clearText_6 : decode cX8_clearText 6 = .ok (.getfield 112, 3) := by decide +kernel
theorem dX8_clearText_9 : decode cX8_clearText 9 = .ok (.istore_n 1, 1) := by decide +kernel
theorem dX8_clearText_10 : decode cX8_clearText 10 = .ok (.aload_n 0, 1) := by decide +kernel
theorem dX8_clearText_11 : decode cX8_clearText 11 = .ok (.iconst 0, 1) := by decide +kernel
theorem dX8_clearText_12 : decode cX8_clearText 12 = .ok (.putfield 112, 3) := by decide +kernel
theorem dX8_clearText_15 : decode cX8_clearText 15 = .ok (.iload_n 1, 1) := by decide +kernel
theorem dX8_clearText_16 : decode cX8_clearText 16 = .ok (.ireturn, 1) := by decide +kernel
theorem dX8_figures_0 : decode cX8_figures 0 = .ok (.iconst 0, 1) := by decide +kernel
theorem dX8_figures_1 : decode cX8_figures 1 = .ok (.istore 5, 2) := by decide +kernel
theorem dX8_figures_3 : decode cX8_figures 3 = .ok (.iload_n 2, 1) := by decide +kernel
theorem dX8_figures_4 : decode cX8_figures 4 = .ok (.iconst 2, 1) := by decide +kernel
theorem dX8_figures_5 : decode cX8_figures 5 = .ok (.if_icmp .ne 8, 3) := by decide +kernel
theorem dX8_figures_8 : decode cX8_figures 8 = .ok (.bipush 10, 2) := by decide +kernel
theorem dX8_figures_10 : decode cX8_figures 10 = .ok (.goto 4, 3) := by decide +kernel
theorem dX8_figures_13 : decode cX8_figures 13 = .ok (.iconst 1, 1) := by decide +kernel
theorem dX8_figures_14 : decode cX8_figures 14 = .ok (.istore 6, 2) := by decide +kernel
theorem dX8_figures_16 : decode cX8_figures 16 = .ok (.iload 6, 2) := by decide +kernel
theorem dX8_figures_18 : decode cX8_figures 18 = .ok (.ifCond .le 104, 3) := by decide +kernel
theorem dX8_figures_21 : decode cX8_figures 21 = .ok (.iload_n 1, 1) := by decide +kernel
theorem dX8_figures_22 : decode cX8_figures 22 = .ok (.iconst (-1), 1) := by decide +kernel
theorem dX8_figures_23 : decode cX8_figures 23 = .ok (.if_icmp .eq 99, 3) := by decide +kernel
theorem dX8_figures_26 : decode cX8_figures 26 = .ok (.aload_n 0, 1) := by decide +kernel
theorem dX8_figures_27 : decode cX8_figures 27 = .ok (.getfield 119, 3) := by decide +kernel
theorem dX8_figures_30 : decode cX8_figures 30 = .ok (.aload_n 0, 1) := by decide +kernel
theorem dX8_figures_31 : decode cX8_figures 31 = .ok (.getfield 112, 3) := by decide +kernel
theorem dX8_figures_34 : decode cX8_figures 34 = .ok (.if_icmp .ge 18, 3) := by decide +kernel
theorem dX8_figures_37 : decode cX8_figures 37 = .ok (.aload_n 0, 1) := by decide +kernel
theorem dX8_figures_38 : decode cX8_figures 38 = .ok (.getfield 7, 3) := by decide +kernel
theorem dX8_figures_41 : decode cX8_figures 41 = .ok (.aload_n 0, 1) := by decide +kernel
theorem dX8_figures_42 : decode cX8_figures 42 = .ok (.getfield 119, 3) := by decide +kernel
theorem dX8_figures_45 : decode cX8_figures 45 = .ok (.iaload, 1) := by decide +kernel
theorem dX8_figures_46 : decode cX8_figures 46 = .ok (.bipush 48, 2) := by decide +kernel
theorem dX8_figures_48 : decode cX8_figures 48 = .ok (.isub, 1) := by decide +kernel
theorem dX8_figures_49 : decode cX8_figures 49 = .ok (.goto 4, 3) := by decide +kernel
theorem dX8_figures_52 : decode cX8_figures 52 = .ok (.iconst (-1), 1) := by decide +kernel
theorem dX8_figures_53 : decode cX8_figures 53 = .ok (.istore 7, 2) := by decide +kernel
theorem dX8_figures_55 : decode cX8_figures 55 = .ok (.iload 5, 2) := by decide +kernel
theorem dX8_figures_57 : decode cX8_figures 57 = .ok (.iload 7, 2) := by decide +kernel
theorem dX8_figures_59 : decode cX8_figures 59 = .ok (.iload 6, 2) := by decide +kernel
theorem dX8_figures_61 : decode cX8_figures 61 = .ok (.imul, 1) := by decide +kernel
theorem dX8_figures_62 : decode cX8_figures 62 = .ok (.iadd, 1) := by decide +kernel
theorem dX8_figures_63 : decode cX8_figures 63 = .ok (.istore 8, 2) := by decide +kernel
theorem dX8_figures_65 : decode cX8_figures 65 = .ok (.iload 7, 2) := by decide +kernel
theorem dX8_figures_67 : decode cX8_figures 67 = .ok (.i2l, 1) := by decide +kernel
theorem dX8_figures_68 : decode cX8_figures 68 = .ok (.lconst 0, 1) := by decide +kernel
theorem dX8_figures_69 : decode cX8_figures 69 = .ok (.ldc2_w 122, 3) := by decide +kernel
theorem dX8_figures_72 : decode cX8_figures 72 = .ok (.invokestatic 46, 3) := by decide +kernel
theorem dX8_figures_75 : decode cX8_figures 75 = .ok (.ifCond .eq 21, 3) := by decide +kernel
theorem dX8_figures_78 : decode cX8_figures 78 = .ok (.iload 8, 2) := by decide +kernel
theorem dX8_figures_80 : decode cX8_figures 80 = .ok (.iload 4, 2) := by decide +kernel
theorem dX8_figures_82 : decode cX8_figures 82 = .ok (.if_icmp .gt 14, 3) := by decide +kernel
theorem dX8_figures_85 : decode cX8_figures 85 = .ok (.iload 8, 2) := by decide +kernel
theorem dX8_figures_87 : decode cX8_figures 87 = .ok (.iload 6, 2) := by decide +kernel
theorem dX8_figures_89 : decode cX8_figures 89 = .ok (.iadd, 1) := by decide +kernel
theorem dX8_figures_90 : decode cX8_figures 90 = .ok (.iconst 1, 1) := by decide +kernel
theorem dX8_figures_91 : decode cX8_figures 91 = .ok (.isub, 1) := by decide +kernel
theorem dX8_figures_92 : decode cX8_figures 92 = .ok (.iload_n 3, 1) := by decide +kernel
theorem dX8_figures_93 : decode cX8_figures 93 = .ok (.if_icmp .ge 5, 3) := by decide +kernel
theorem dX8_figures_96 : decode cX8_figures 96 = .ok (.iconst (-1), 1) := by decide +kernel
theorem dX8_figures_97 : decode cX8_figures 97 = .ok (.ireturn, 1) := by decide +kernel
theorem dX8_figures_98 : decode cX8_figures 98 = .ok (.iload 8, 2) := by decide +kernel
theorem dX8_figures_100 : decode cX8_figures 100 = .ok (.istore 5, 2) := by decide +kernel
theorem dX8_figures_102 : decode cX8_figures 102 = .ok (.aload_n 0, 1) := by decide +kernel
theorem dX8_figures_103 : decode cX8_figures 103 = .ok (.dup, 1) := by decide +kernel
theorem dX8_figures_104 : decode cX8_figures 104 = .ok (.getfield 119, 3) := by decide +kernel
theorem dX8_figures_107 : decode cX8_figures 107 = .ok (.iconst 1, 1) := by decide +kernel
theorem dX8_figures_108 : decode cX8_figures 108 = .ok (.iadd, 1) := by decide +kernel
theorem dX8_figures_109 : decode cX8_figures 109 = .ok (.putfield 119, 3) := by decide +kernel
theorem dX8_figures_112 : decode cX8_figures 112 = .ok (.iload 6, 2) := by decide +kernel
theorem dX8_figures_114 : decode cX8_figures 114 = .ok (.bipush 10, 2) := by decide +kernel
theorem dX8_figures_116 : decode cX8_figures 116 = .ok (.idiv, 1) := by decide +kernel
theorem dX8_figures_117 : decode cX8_figures 117 = .ok (.istore 6, 2) := by decide +kernel
theorem dX8_figures_119 : decode cX8_figures 119 = .ok (.goto (-103), 3) := by decide +kernel
theorem dX8_figures_122 : decode cX8_figures 122 = .ok (.iload_n 1, 1) := by decide +kernel
theorem dX8_figures_123 : decode cX8_figures 123 = .ok (.iconst (-1), 1) := by decide +kernel
theorem dX8_figures_124 : decode cX8_figures 124 = .ok (.if_icmp .ne 7, 3) := by decide +kernel
theorem dX8_figures_127 : decode cX8_figures 127 = .ok (.iconst (-1), 1) := by decide +kernel
theorem dX8_figures_128 : decode cX8_figures 128 = .ok (.goto 5, 3) := by decide +kernel
theorem dX8_figures_131 : decode cX8_figures 131 = .ok (.iload 5, 2) := by decide +kernel
theorem dX8_figures_133 : decode cX8_figures 133 = .ok (.ireturn, 1) := by decide +kernel
theorem dX8_done_0 : decode cX8_done 0 = .ok (.aload_n 0, 1) := by decide +kernel
theorem dX8_done_1 : decode cX8_done 1 = .ok (.dup, 1) := by decide +kernel
theorem dX8_done_2 : decode cX8_done 2 = .ok (.getfield 124, 3) := by decide +kernel
theorem dX8_done_5 : decode cX8_done 5 = .ok (.iload_n 1, 1) := by decide +kernel
theorem dX8_done_6 : decode cX8_done 6 = .ok (.ifCond .eq 7, 3) := by decide +kernel
theorem dX8_done_9 : decode cX8_done 9 = .ok (.iconst 0, 1) := by decide +kernel
theorem dX8_done_10 : decode cX8_done 10 = .ok (.goto 4, 3) := by decide +kernel
theorem dX8_done_13 : decode cX8_done 13 = .ok (.iconst 1, 1) := by decide +kernel
theorem dX8_done_14 : decode cX8_done 14 = .ok (.iadd, 1) := by decide +kernel
theorem dX8_done_15 : decode cX8_done 15 = .ok (.putfield 124, 3) := by decide +kernel
theorem dX8_done_18 : decode cX8_done 18 = .ok (.iconst 1, 1) := by decide +kernel
theorem dX8_done_19 : decode cX8_done 19 = .ok (.ireturn, 1) := by decide +kernel
theorem dX8_readJewel_0 : decode cX8_readJewel 0 = .ok (.aload_n 0, 1) := by decide +kernel
theorem dX8_readJewel_1 : decode cX8_readJewel 1 = .ok (.getfield 119, 3) := by decide +kernel
theorem dX8_readJewel_4 : decode cX8_readJewel 4 = .ok (.aload_n 0, 1) := by decide +kernel
theorem dX8_readJewel_5 : decode cX8_readJewel 5 = .ok (.getfield 112, 3) := by decide +kernel
theorem dX8_readJewel_8 : decode cX8_readJewel 8 = .ok (.if_icmp .ge 18, 3) := by decide +kernel
theorem dX8_readJewel_11 : decode cX8_readJewel 11 = .ok (.aload_n 0, 1) := by decide +kernel
theorem dX8_readJewel_12 : decode cX8_readJewel 12 = .ok (.getfield 7, 3) := by decide +kernel
theorem dX8_readJewel_15 : decode cX8_readJewel 15 = .ok (.aload_n 0, 1) := by decide +kernel
theorem dX8_readJewel_16 : decode cX8_readJewel 16 = .ok (.getfield 119, 3) := by decide +kernel
theorem dX8_readJewel_19 : decode cX8_readJewel 19 = .ok (.iaload, 1) := by decide +kernel
theorem dX8_readJewel_20 : decode cX8_readJewel 20 = .ok (.bipush 97, 2) := by decide +kernel
theorem dX8_readJewel_22 : decode cX8_readJewel 22 = .ok (.isub, 1) := by decide +kernel
theorem dX8_readJewel_23 : decode cX8_readJewel 23 = .ok (.goto 4, 3) := by decide +kernel
theorem dX8_readJewel_26 : decode cX8_readJewel 26 = .ok (.iconst (-1), 1) := by decide +kernel
theorem dX8_readJewel_27 : decode cX8_readJewel 27 = .ok (.istore_n 2, 1) := by decide +kernel
theorem dX8_readJewel_28 : decode cX8_readJewel 28 = .ok (.iload_n 2, 1) := by decide +kernel
theorem dX8_readJewel_29 : decode cX8_readJewel 29 = .ok (.i2l, 1) := by decide +kernel
theorem dX8_readJewel_30 : decode cX8_readJewel 30 = .ok (.lconst 0, 1) := by decide +kernel
theorem dX8_readJewel_31 : decode cX8_readJewel 31 = .ok (.ldc2_w 127, 3) := by decide +kernel
theorem dX8_readJewel_34 : decode cX8_readJewel 34 = .ok (.invokestatic 46, 3) := by decide +kernel
theorem dX8_readJewel_37 : decode cX8_readJewel 37 = .ok (.ifCond .ne 5, 3) := by decide +kernel
theorem dX8_readJewel_40 : decode cX8_readJewel 40 = .ok (.iconst 0, 1) := by decide +kernel
theorem dX8_readJewel_41 : decode cX8_readJewel 41 = .ok (.ireturn, 1) := by decide +kernel
theorem dX8_readJewel_42 : decode cX8_readJewel 42 = .ok (.aload_n 0, 1) := by decide +kernel
theorem dX8_readJewel_43 : decode cX8_readJewel 43 = .ok (.dup, 1) := by decide +kernel
theorem dX8_readJewel_44 : decode cX8_readJewel 44 = .ok (.getfield 119, 3) := by decide +kernel
theorem dX8_readJewel_47 : decode cX8_readJewel 47 = .ok (.iconst 1, 1) := by decide +kernel
theorem dX8_readJewel_48 : decode cX8_readJewel 48 = .ok (.iadd, 1) := by decide +kernel
theorem dX8_readJewel_49 : decode cX8_readJewel 49 = .ok (.putfield 119, 3) := by decide +kernel
theorem dX8_readJewel_52 : decode cX8_readJewel 52 = .ok (.aload_n 0, 1) := by decide +kernel
theorem dX8_readJewel_53 : decode cX8_readJewel 53 = .ok (.iconst 0, 1) := by decide +kernel
theorem dX8_readJewel_54 : decode cX8_readJewel 54 = .ok (.iconst 1, 1) := by decide +kernel
theorem dX8_readJewel_55 : decode cX8_readJewel 55 = .ok (.iconst 1, 1) := by decide +kernel
theorem dX8_readJewel_56 : decode cX8_readJewel 56 = .ok (.bipush 9, 2) := by decide +kernel
theorem dX8_readJewel_58 : decode cX8_readJewel 58 = .ok (.invokevirtual 129, 3) := by decide +kernel
theorem dX8_readJewel_61 : decode cX8_readJewel 61 = .ok (.istore_n 3, 1) := by decide +kernel
theorem dX8_readJewel_62 : decode cX8_readJewel 62 = .ok (.iload_n 3, 1) := by decide +kernel
theorem dX8_readJewel_63 : decode cX8_readJewel 63 = .ok (.iconst (-1), 1) := by decide +kernel
theorem dX8_readJewel_64 : decode cX8_readJewel 64 = .ok (.if_icmp .eq 36, 3) := by decide +kernel
theorem dX8_readJewel_67 : decode cX8_readJewel 67 = .ok (.aload_n 0, 1) := by decide +kernel
theorem dX8_readJewel_68 : decode cX8_readJewel 68 = .ok (.aload_n 1, 1) := by decide +kernel
theorem dX8_readJewel_69 : decode cX8_readJewel 69 = .ok (.iconst 0, 1) := by decide +kernel
theorem dX8_readJewel_70 : decode cX8_readJewel 70 = .ok (.iaload, 1) := by decide +kernel
theorem dX8_readJewel_71 : decode cX8_readJewel 71 = .ok (.bipush 16, 2) := by decide +kernel
theorem dX8_readJewel_73 : decode cX8_readJewel 73 = .ok (.if_icmp .ge 16, 3) := by decide +kernel
theorem dX8_readJewel_76 : decode cX8_readJewel 76 = .ok (.aload_n 1, 1) := by decide +kernel
theorem dX8_readJewel_77 : decode cX8_readJewel 77 = .ok (.iload_n 2, 1) := by decide +kernel
theorem dX8_readJewel_78 : decode cX8_readJewel 78 = .ok (.iload_n 3, 1) := by decide +kernel
theorem dX8_readJewel_79 : decode cX8_readJewel 79 = .ok (.invokestatic 133, 3) := by decide +kernel
theorem dX8_readJewel_82 : decode cX8_readJewel 82 = .ok (.ifCond .lt 7, 3) := by decide +kernel
theorem dX8_readJewel_85 : decode cX8_readJewel 85 = .ok (.iconst 1, 1) := by decide +kernel
theorem dX8_readJewel_86 : decode cX8_readJewel 86 = .ok (.goto 4, 3) := by decide +kernel
theorem dX8_readJewel_89 : decode cX8_readJewel 89 = .ok (.iconst 0, 1) := by decide +kernel
theorem dX8_readJewel_90 : decode cX8_readJewel 90 = .ok (.invokevirtual 136, 3) := by decide +kernel
theorem dX8_readJewel_93 : decode cX8_readJewel 93 = .ok (.ifCond .eq 7, 3) := by decide +kernel
theorem dX8_readJewel_96 : decode cX8_readJewel 96 = .ok (.iconst 1, 1) := by decide +kernel
theorem dX8_readJewel_97 : decode cX8_readJewel 97 = .ok (.goto 4, 3) := by decide +kernel
theorem dX8_readJewel_100 : decode cX8_readJewel 100 = .ok (.iconst 0, 1) := by decide +kernel
theorem dX8_readJewel_101 : decode cX8_readJewel 101 = .ok (.ireturn, 1) := by decide +kernel
theorem dX8_readCommand_0 : decode cX8_readCommand 0 = .ok (.aload_n 0, 1) := by decide +kernel
theorem dX8_readCommand_1 : decode cX8_readCommand 1 = .ok (.getfield 7, 3) := by decide +kernel
theorem dX8_readCommand_4 : decode cX8_readCommand 4 = .ok (.aload_n 0, 1) := by decide +kernel
theorem dX8_readCommand_5 : decode cX8_readCommand 5 = .ok (.getfield 119, 3) := by decide +kernel
theorem dX8_readCommand_8 : decode cX8_readCommand 8 = .ok (.iaload, 1) := by decide +kernel
theorem dX8_readCommand_9 : decode cX8_readCommand 9 = .ok (.istore_n 2, 1) := by decide +kernel
theorem dX8_readCommand_10 : decode cX8_readCommand 10 = .ok (.aload_n 0, 1) := by decide +kernel
theorem dX8_readCommand_11 : decode cX8_readCommand 11 = .ok (.dup, 1) := by decide +kernel
theorem dX8_readCommand_12 : decode cX8_readCommand 12 = .ok (.getfield 119, 3) := by decide +kernel
theorem dX8_readCommand_15 : decode cX8_readCommand 15 = .ok (.iconst 1, 1) := by decide +kernel
theorem dX8_readCommand_16 : decode cX8_readCommand 16 = .ok (.iadd, 1) := by decide +kernel
theorem dX8_readCommand_17 : decode cX8_readCommand 17 = .ok (.putfield 119, 3) := by decide +kernel
theorem dX8_readCommand_20 : decode cX8_readCommand 20 = .ok (.iload_n 2, 1) := by decide +kernel
theorem dX8_readCommand_21 : decode cX8_readCommand 21 = .ok (.tableswitch 427 98 116 #[97, 146, 335, 427, 427, 206, 427, 427, 91, 427, 427, 146, 427, 427, 427, 427, 410, 375, 278], 91) := by decide +kernel
theorem dX8_readCommand_112 : decode cX8_readCommand 112 = .ok (.aload_n 0, 1) := by decide +kernel
theorem dX8_readCommand_113 : decode cX8_readCommand 113 = .ok (.aload_n 1, 1) := by decide +kernel
theorem dX8_readCommand_114 : decode cX8_readCommand 114 = .ok (.invokevirtual 140, 3) := by decide +kernel
theorem dX8_readCommand_117 : decode cX8_readCommand 117 = .ok (.ireturn, 1) := by decide +kernel
theorem dX8_readCommand_118 : decode cX8_readCommand 118 = .ok (.aload_n 0, 1) := by decide +kernel
theorem dX8_readCommand_119 : decode cX8_readCommand 119 = .ok (.iconst 0, 1) := by decide +kernel
theorem dX8_readCommand_120 : decode cX8_readCommand 120 = .ok (.iconst 2, 1) := by decide +kernel
theorem dX8_readCommand_121 : decode cX8_readCommand 121 = .ok (.iconst 0, 1) := by decide +kernel
theorem dX8_readCommand_122 : decode cX8_readCommand 122 = .ok (.bipush 15, 2) := by decide +kernel
theorem dX8_readCommand_124 : decode cX8_readCommand 124 = .ok (.invokevirtual 129, 3) := by decide +kernel
theorem dX8_readCommand_127 : decode cX8_readCommand 127 = .ok (.istore_n 3, 1) := by decide +kernel
theorem dX8_readCommand_128 : decode cX8_readCommand 128 = .ok (.iload_n 3, 1) := by decide +kernel
theorem dX8_readCommand_129 : decode cX8_readCommand 129 = .ok (.iconst (-1), 1) := by decide +kernel
theorem dX8_readCommand_130 : decode cX8_readCommand 130 = .ok (.if_icmp .eq 35, 3) := by decide +kernel
theorem dX8_readCommand_133 : decode cX8_readCommand 133 = .ok (.aload_n 0, 1) := by decide +kernel
theorem dX8_readCommand_134 : decode cX8_readCommand 134 = .ok (.aload_n 1, 1) := by decide +kernel
theorem dX8_readCommand_135 : decode cX8_readCommand 135 = .ok (.iload_n 3, 1) := by decide +kernel
theorem dX8_readCommand_136 : decode cX8_readCommand 136 = .ok (.invokestatic 144, 3) := by decide +kernel
theorem dX8_readCommand_139 : decode cX8_readCommand 139 = .ok (.ifCond .eq 15, 3) := by decide +kernel
theorem dX8_readCommand_142 : decode cX8_readCommand 142 = .ok (.aload_n 1, 1) := by decide +kernel
theorem dX8_readCommand_143 : decode cX8_readCommand 143 = .ok (.iload_n 3, 1) := by decide +kernel
theorem dX8_readCommand_144 : decode cX8_readCommand 144 = .ok (.invokestatic 147, 3) := by decide +kernel
theorem dX8_readCommand_147 : decode cX8_readCommand 147 = .ok (.ifCond .lt 7, 3) := by decide +kernel
theorem dX8_readCommand_150 : decode cX8_readCommand 150 = .ok (.iconst 1, 1) := by decide +kernel
theorem dX8_readCommand_151 : decode cX8_readCommand 151 = .ok (.goto 4, 3) := by decide +kernel
theorem dX8_readCommand_154 : decode cX8_readCommand 154 = .ok (.iconst 0, 1) := by decide +kernel
theorem dX8_readCommand_155 : decode cX8_readCommand 155 = .ok (.invokevirtual 136, 3) := by decide +kernel
theorem dX8_readCommand_158 : decode cX8_readCommand 158 = .ok (.ifCond .eq 7, 3) := by decide +kernel
theorem dX8_readCommand_161 : decode cX8_readCommand 161 = .ok (.iconst 1, 1) := by decide +kernel
theorem dX8_readCommand_162 : decode cX8_readCommand 162 = .ok (.goto 4, 3) := by decide +kernel
theorem dX8_readCommand_165 : decode cX8_readCommand 165 = .ok (.iconst 0, 1) := by decide +kernel
theorem dX8_readCommand_166 : decode cX8_readCommand 166 = .ok (.ireturn, 1) := by decide +kernel
theorem dX8_readCommand_167 : decode cX8_readCommand 167 = .ok (.aload_n 0, 1) := by decide +kernel
theorem dX8_readCommand_168 : decode cX8_readCommand 168 = .ok (.iconst 0, 1) := by decide +kernel
theorem dX8_readCommand_169 : decode cX8_readCommand 169 = .ok (.iconst 2, 1) := by decide +kernel
theorem dX8_readCommand_170 : decode cX8_readCommand 170 = .ok (.iconst 1, 1) := by decide +kernel
theorem dX8_readCommand_171 : decode cX8_readCommand 171 = .ok (.bipush 15, 2) := by decide +kernel
theorem dX8_readCommand_173 : decode cX8_readCommand 173 = .ok (.invokevirtual 129, 3) := by decide +kernel
theorem dX8_readCommand_176 : decode cX8_readCommand 176 = .ok (.istore_n 3, 1) := by decide +kernel
theorem dX8_readCommand_177 : decode cX8_readCommand 177 = .ok (.iload_n 3, 1) := by decide +kernel
theorem dX8_readCommand_178 : decode cX8_readCommand 178 = .ok (.iconst (-1), 1) := by decide +kernel
theorem dX8_readCommand_179 : decode cX8_readCommand 179 = .ok (.if_icmp .eq 46, 3) := by decide +kernel
theorem dX8_readCommand_182 : decode cX8_readCommand 182 = .ok (.aload_n 0, 1) := by decide +kernel
theorem dX8_readCommand_183 : decode cX8_readCommand 183 = .ok (.aload_n 1, 1) := by decide +kernel
theorem dX8_readCommand_184 : decode cX8_readCommand 184 = .ok (.iload_n 3, 1) := by decide +kernel
theorem dX8_readCommand_185 : decode cX8_readCommand 185 = .ok (.invokestatic 150, 3) := by decide +kernel
theorem dX8_readCommand_188 : decode cX8_readCommand 188 = .ok (.ifCond .eq 26, 3) := by decide +kernel
theorem dX8_readCommand_191 : decode cX8_readCommand 191 = .ok (.aload_n 1, 1) := by decide +kernel
theorem dX8_readCommand_192 : decode cX8_readCommand 192 = .ok (.iload_n 3, 1) := by decide +kernel
theorem dX8_readCommand_193 : decode cX8_readCommand 193 = .ok (.iload_n 2, 1) := by decide +kernel
theorem dX8_readCommand_194 : decode cX8_readCommand 194 = .ok (.bipush 99, 2) := by decide +kernel
theorem dX8_readCommand_196 : decode cX8_readCommand 196 = .ok (.if_icmp .ne 7, 3) := by decide +kernel
theorem dX8_readCommand_199 : decode cX8_readCommand 199 = .ok (.iconst 1, 1) := by decide +kernel
theorem dX8_readCommand_200 : decode cX8_readCommand 200 = .ok (.goto 4, 3) := by decide +kernel
theorem dX8_readCommand_203 : decode cX8_readCommand 203 = .ok (.iconst 0, 1) := by decide +kernel
theorem dX8_readCommand_204 : decode cX8_readCommand 204 = .ok (.invokestatic 153, 3) := by decide +kernel
theorem dX8_readCommand_207 : decode cX8_readCommand 207 = .ok (.ifCond .le 7, 3) := by decide +kernel
theorem dX8_readCommand_210 : decode cX8_readCommand 210 = .ok (.iconst 1, 1) := by decide +kernel
theorem dX8_readCommand_211 : decode cX8_readCommand 211 = .ok (.goto 4, 3) := by decide +kernel
theorem dX8_readCommand_214 : decode cX8_readCommand 214 = .ok (.iconst 0, 1) := by decide +kernel
theorem dX8_readCommand_215 : decode cX8_readCommand 215 = .ok (.invokevirtual 136, 3) := by decide +kernel
theorem dX8_readCommand_218 : decode cX8_readCommand 218 = .ok (.ifCond .eq 7, 3) := by decide +kernel
theorem dX8_readCommand_221 : decode cX8_readCommand 221 = .ok (.iconst 1, 1) := by decide +kernel
theorem dX8_readCommand_222 : decode cX8_readCommand 222 = .ok (.goto 4, 3) := by decide +kernel
theorem dX8_readCommand_225 : decode cX8_readCommand 225 = .ok (.iconst 0, 1) := by decide +kernel
theorem dX8_readCommand_226 : decode cX8_readCommand 226 = .ok (.ireturn, 1) := by decide +kernel
theorem dX8_readCommand_227 : decode cX8_readCommand 227 = .ok (.aload_n 0, 1) := by decide +kernel
theorem dX8_readCommand_228 : decode cX8_readCommand 228 = .ok (.iconst 0, 1) := by decide +kernel
theorem dX8_readCommand_229 : decode cX8_readCommand 229 = .ok (.iconst 2, 1) := by decide +kernel
theorem dX8_readCommand_230 : decode cX8_readCommand 230 = .ok (.iconst 0, 1) := by decide +kernel
theorem dX8_readCommand_231 : decode cX8_readCommand 231 = .ok (.bipush 15, 2) := by decide +kernel
theorem dX8_readCommand_233 : decode cX8_readCommand 233 = .ok (.invokevirtual 129, 3) := by decide +kernel
theorem dX8_readCommand_236 : decode cX8_readCommand 236 = .ok (.istore_n 3, 1) := by decide +kernel
theorem dX8_readCommand_237 : decode cX8_readCommand 237 = .ok (.aload_n 0, 1) := by decide +kernel
theorem dX8_readCommand_238 : decode cX8_readCommand 238 = .ok (.iload_n 3, 1) := by decide +kernel
theorem dX8_readCommand_239 : decode cX8_readCommand 239 = .ok (.iconst 1, 1) := by decide +kernel
theorem dX8_readCommand_240 : decode cX8_readCommand 240 = .ok (.iconst 0, 1) := by decide +kernel
theorem dX8_readCommand_241 : decode cX8_readCommand 241 = .ok (.iconst 2, 1) := by decide +kernel
theorem dX8_readCommand_242 : decode cX8_readCommand 242 = .ok (.invokevirtual 129, 3) := by decide +kernel
theorem dX8_readCommand_245 : decode cX8_readCommand 245 = .ok (.istore 4, 2) := by decide +kernel
theorem dX8_readCommand_247 : decode cX8_readCommand 247 = .ok (.iload 4, 2) := by decide +kernel
theorem dX8_readCommand_249 : decode cX8_readCommand 249 = .ok (.iconst (-1), 1) := by decide +kernel
theorem dX8_readCommand_250 : decode cX8_readCommand 250 = .ok (.if_icmp .eq 47, 3) := by decide +kernel
theorem dX8_readCommand_253 : decode cX8_readCommand 253 = .ok (.aload_n 0, 1) := by decide +kernel
theorem dX8_readCommand_254 : decode cX8_readCommand 254 = .ok (.aload_n 1, 1) := by decide +kernel
theorem dX8_readCommand_255 : decode cX8_readCommand 255 = .ok (.iload_n 3, 1) := by decide +kernel
theorem dX8_readCommand_256 : decode cX8_readCommand 256 = .ok (.invokestatic 157, 3) := by decide +kernel
theorem dX8_readCommand_259 : decode cX8_readCommand 259 = .ok (.ifCond .eq 27, 3) := by decide +kernel
theorem dX8_readCommand_262 : decode cX8_readCommand 262 = .ok (.aload_n 1, 1) := by decide +kernel
theorem dX8_readCommand_263 : decode cX8_readCommand 263 = .ok (.iload_n 3, 1) := by decide +kernel
theorem dX8_readCommand_264 : decode cX8_readCommand 264 = .ok (.iload 4, 2) := by decide +kernel
theorem dX8_readCommand_266 : decode cX8_readCommand 266 = .ok (.iconst 2, 1) := by decide +kernel
theorem dX8_readCommand_267 : decode cX8_readCommand 267 = .ok (.if_icmp .ne 7, 3) := by decide +kernel
theorem dX8_readCommand_270 : decode cX8_readCommand 270 = .ok (.iconst (-1), 1) := by decide +kernel
theorem dX8_readCommand_271 : decode cX8_readCommand 271 = .ok (.goto 5, 3) := by decide +kernel
theorem dX8_readCommand_274 : decode cX8_readCommand 274 = .ok (.iload 4, 2) := by decide +kernel
theorem dX8_readCommand_276 : decode cX8_readCommand 276 = .ok (.invokestatic 107, 3) := by decide +kernel
theorem dX8_readCommand_279 : decode cX8_readCommand 279 = .ok (.ifCond .lt 7, 3) := by decide +kernel
theorem dX8_readCommand_282 : decode cX8_readCommand 282 = .ok (.iconst 1, 1) := by decide +kernel
theorem dX8_readCommand_283 : decode cX8_readCommand 283 = .ok (.goto 4, 3) := by decide +kernel
theorem dX8_readCommand_286 : decode cX8_readCommand 286 = .ok (.iconst 0, 1) := by decide +kernel
theorem dX8_readCommand_287 : decode cX8_readCommand 287 = .ok (.invokevirtual 136, 3) := by decide +kernel
theorem dX8_readCommand_290 : decode cX8_readCommand 290 = .ok (.ifCond .eq 7, 3) := by decide +kernel
theorem dX8_readCommand_293 : decode cX8_readCommand 293 = .ok (.iconst 1, 1) := by decide +kernel
theorem dX8_readCommand_294 : decode cX8_readCommand 294 = .ok (.goto 4, 3) := by decide +kernel
theorem dX8_readCommand_297 : decode cX8_readCommand 297 = .ok (.iconst 0, 1) := by decide +kernel
theorem dX8_readCommand_298 : decode cX8_readCommand 298 = .ok (.ireturn, 1) := by decide +kernel
theorem dX8_readCommand_299 : decode cX8_readCommand 299 = .ok (.aload_n 0, 1) := by decide +kernel
theorem dX8_readCommand_300 : decode cX8_readCommand 300 = .ok (.iconst 0, 1) := by decide +kernel
theorem dX8_readCommand_301 : decode cX8_readCommand 301 = .ok (.iconst 2, 1) := by decide +kernel
theorem dX8_readCommand_302 : decode cX8_readCommand 302 = .ok (.iconst 0, 1) := by decide +kernel
theorem dX8_readCommand_303 : decode cX8_readCommand 303 = .ok (.bipush 15, 2) := by decide +kernel
theorem dX8_readCommand_305 : decode cX8_readCommand 305 = .ok (.invokevirtual 129, 3) := by decide +kernel
theorem dX8_readCommand_308 : decode cX8_readCommand 308 = .ok (.istore_n 3, 1) := by decide +kernel
theorem dX8_readCommand_309 : decode cX8_readCommand 309 = .ok (.iload_n 3, 1) := by decide +kernel
theorem dX8_readCommand_310 : decode cX8_readCommand 310 = .ok (.iconst (-1), 1) := by decide +kernel
theorem dX8_readCommand_311 : decode cX8_readCommand 311 = .ok (.if_icmp .eq 43, 3) := by decide +kernel
theorem dX8_readCommand_314 : decode cX8_readCommand 314 = .ok (.aload_n 0, 1) := by decide +kernel
theorem dX8_readCommand_315 : decode cX8_readCommand 315 = .ok (.aload_n 1, 1) := by decide +kernel
theorem dX8_readCommand_316 : decode cX8_readCommand 316 = .ok (.iload_n 3, 1) := by decide +kernel
theorem dX8_readCommand_317 : decode cX8_readCommand 317 = .ok (.invokestatic 157, 3) := by decide +kernel
theorem dX8_readCommand_320 : decode cX8_readCommand 320 = .ok (.ifCond .eq 23, 3) := by decide +kernel
theorem dX8_readCommand_323 : decode cX8_readCommand 323 = .ok (.aload_n 1, 1) := by decide +kernel
theorem dX8_readCommand_324 : decode cX8_readCommand 324 = .ok (.iload_n 3, 1) := by decide +kernel
theorem dX8_readCommand_325 : decode cX8_readCommand 325 = .ok (.invokestatic 104, 3) := by decide +kernel
theorem dX8_readCommand_328 : decode cX8_readCommand 328 = .ok (.ifCond .ne 15, 3) := by decide +kernel
theorem dX8_readCommand_331 : decode cX8_readCommand 331 = .ok (.aload_n 1, 1) := by decide +kernel
theorem dX8_readCommand_332 : decode cX8_readCommand 332 = .ok (.iload_n 3, 1) := by decide +kernel
theorem dX8_readCommand_333 : decode cX8_readCommand 333 = .ok (.invokestatic 160, 3) := by decide +kernel
theorem dX8_readCommand_336 : decode cX8_readCommand 336 = .ok (.ifCond .ne 7, 3) := by decide +kernel
theorem dX8_readCommand_339 : decode cX8_readCommand 339 = .ok (.iconst 1, 1) := by decide +kernel
theorem dX8_readCommand_340 : decode cX8_readCommand 340 = .ok (.goto 4, 3) := by decide +kernel
theorem dX8_readCommand_343 : decode cX8_readCommand 343 = .ok (.iconst 0, 1) := by decide +kernel
theorem dX8_readCommand_344 : decode cX8_readCommand 344 = .ok (.invokevirtual 136, 3) := by decide +kernel
theorem dX8_readCommand_347 : decode cX8_readCommand 347 = .ok (.ifCond .eq 7, 3) := by decide +kernel
theorem dX8_readCommand_350 : decode cX8_readCommand 350 = .ok (.iconst 1, 1) := by decide +kernel
theorem dX8_readCommand_351 : decode cX8_readCommand 351 = .ok (.goto 4, 3) := by decide +kernel
theorem dX8_readCommand_354 : decode cX8_readCommand 354 = .ok (.iconst 0, 1) := by decide +kernel
theorem dX8_readCommand_355 : decode cX8_readCommand 355 = .ok (.ireturn, 1) := by decide +kernel
theorem dX8_readCommand_356 : decode cX8_readCommand 356 = .ok (.aload_n 0, 1) := by decide +kernel
theorem dX8_readCommand_357 : decode cX8_readCommand 357 = .ok (.iconst 0, 1) := by decide +kernel
theorem dX8_readCommand_358 : decode cX8_readCommand 358 = .ok (.iconst 1, 1) := by decide +kernel
theorem dX8_readCommand_359 : decode cX8_readCommand 359 = .ok (.iconst 0, 1) := by decide +kernel
theorem dX8_readCommand_360 : decode cX8_readCommand 360 = .ok (.iconst 1, 1) := by decide +kernel
theorem dX8_readCommand_361 : decode cX8_readCommand 361 = .ok (.invokevirtual 129, 3) := by decide +kernel
theorem dX8_readCommand_364 : decode cX8_readCommand 364 = .ok (.istore_n 3, 1) := by decide +kernel
theorem dX8_readCommand_365 : decode cX8_readCommand 365 = .ok (.iload_n 3, 1) := by decide +kernel
theorem dX8_readCommand_366 : decode cX8_readCommand 366 = .ok (.iconst (-1), 1) := by decide +kernel
theorem dX8_readCommand_367 : decode cX8_readCommand 367 = .ok (.if_icmp .eq 27, 3) := by decide +kernel
theorem dX8_readCommand_370 : decode cX8_readCommand 370 = .ok (.aload_n 0, 1) := by decide +kernel
theorem dX8_readCommand_371 : decode cX8_readCommand 371 = .ok (.aload_n 1, 1) := by decide +kernel
theorem dX8_readCommand_372 : decode cX8_readCommand 372 = .ok (.iload_n 3, 1) := by decide +kernel
theorem dX8_readCommand_373 : decode cX8_readCommand 373 = .ok (.invokestatic 163, 3) := by decide +kernel
theorem dX8_readCommand_376 : decode cX8_readCommand 376 = .ok (.ifCond .lt 7, 3) := by decide +kernel
theorem dX8_readCommand_379 : decode cX8_readCommand 379 = .ok (.iconst 1, 1) := by decide +kernel
theorem dX8_readCommand_380 : decode cX8_readCommand 380 = .ok (.goto 4, 3) := by decide +kernel
theorem dX8_readCommand_383 : decode cX8_readCommand 383 = .ok (.iconst 0, 1) := by decide +kernel
theorem dX8_readCommand_384 : decode cX8_readCommand 384 = .ok (.invokevirtual 136, 3) := by decide +kernel
theorem dX8_readCommand_387 : decode cX8_readCommand 387 = .ok (.ifCond .eq 7, 3) := by decide +kernel
theorem dX8_readCommand_390 : decode cX8_readCommand 390 = .ok (.iconst 1, 1) := by decide +kernel
theorem dX8_readCommand_391 : decode cX8_readCommand 391 = .ok (.goto 4, 3) := by decide +kernel
theorem dX8_readCommand_394 : decode cX8_readCommand 394 = .ok (.iconst 0, 1) := by decide +kernel
theorem dX8_readCommand_395 : decode cX8_readCommand 395 = .ok (.ireturn, 1) := by decide +kernel
theorem dX8_readCommand_396 : decode cX8_readCommand 396 = .ok (.aload_n 0, 1) := by decide +kernel
theorem dX8_readCommand_397 : decode cX8_readCommand 397 = .ok (.iconst 0, 1) := by decide +kernel
theorem dX8_readCommand_398 : decode cX8_readCommand 398 = .ok (.iconst 1, 1) := by decide +kernel
theorem dX8_readCommand_399 : decode cX8_readCommand 399 = .ok (.iconst 0, 1) := by decide +kernel
theorem dX8_readCommand_400 : decode cX8_readCommand 400 = .ok (.iconst 1, 1) := by decide +kernel
theorem dX8_readCommand_401 : decode cX8_readCommand 401 = .ok (.invokevirtual 129, 3) := by decide +kernel
theorem dX8_readCommand_404 : decode cX8_readCommand 404 = .ok (.istore_n 3, 1) := by decide +kernel
theorem dX8_readCommand_405 : decode cX8_readCommand 405 = .ok (.aload_n 1, 1) := by decide +kernel
theorem dX8_readCommand_406 : decode cX8_readCommand 406 = .ok (.iconst 4, 1) := by decide +kernel
theorem dX8_readCommand_407 : decode cX8_readCommand 407 = .ok (.iload_n 3, 1) := by decide +kernel
theorem dX8_readCommand_408 : decode cX8_readCommand 408 = .ok (.iconst (-1), 1) := by decide +kernel
theorem dX8_readCommand_409 : decode cX8_readCommand 409 = .ok (.if_icmp .ne 9, 3) := by decide +kernel
theorem dX8_readCommand_412 : decode cX8_readCommand 412 = .ok (.aload_n 1, 1) := by decide +kernel
theorem dX8_readCommand_413 : decode cX8_readCommand 413 = .ok (.iconst 4, 1) := by decide +kernel
theorem dX8_readCommand_414 : decode cX8_readCommand 414 = .ok (.iaload, 1) := by decide +kernel
theorem dX8_readCommand_415 : decode cX8_readCommand 415 = .ok (.goto 4, 3) := by decide +kernel
theorem dX8_readCommand_418 : decode cX8_readCommand 418 = .ok (.iload_n 3, 1) := by decide +kernel
theorem dX8_readCommand_419 : decode cX8_readCommand 419 = .ok (.iastore, 1) := by decide +kernel
theorem dX8_readCommand_420 : decode cX8_readCommand 420 = .ok (.iload_n 3, 1) := by decide +kernel
theorem dX8_readCommand_421 : decode cX8_readCommand 421 = .ok (.iconst (-1), 1) := by decide +kernel
theorem dX8_readCommand_422 : decode cX8_readCommand 422 = .ok (.if_icmp .eq 7, 3) := by decide +kernel
theorem dX8_readCommand_425 : decode cX8_readCommand 425 = .ok (.iconst 1, 1) := by decide +kernel
theorem dX8_readCommand_426 : decode cX8_readCommand 426 = .ok (.goto 4, 3) := by decide +kernel
theorem dX8_readCommand_429 : decode cX8_readCommand 429 = .ok (.iconst 0, 1) := by decide +kernel
theorem dX8_readCommand_430 : decode cX8_readCommand 430 = .ok (.ireturn, 1) := by decide +kernel
theorem dX8_readCommand_431 : decode cX8_readCommand 431 = .ok (.aload_n 0, 1) := by decide +kernel
theorem dX8_readCommand_432 : decode cX8_readCommand 432 = .ok (.aload_n 1, 1) := by decide +kernel
theorem dX8_readCommand_433 : decode cX8_readCommand 433 = .ok (.invokestatic 166, 3) := by decide +kernel
theorem dX8_readCommand_436 : decode cX8_readCommand 436 = .ok (.ifCond .lt 7, 3) := by decide +kernel
theorem dX8_readCommand_439 : decode cX8_readCommand 439 = .ok (.iconst 1, 1) := by decide +kernel
theorem dX8_readCommand_440 : decode cX8_readCommand 440 = .ok (.goto 4, 3) := by decide +kernel
theorem dX8_readCommand_443 : decode cX8_readCommand 443 = .ok (.iconst 0, 1) := by decide +kernel
theorem dX8_readCommand_444 : decode cX8_readCommand 444 = .ok (.invokevirtual 136, 3) := by decide +kernel
theorem dX8_readCommand_447 : decode cX8_readCommand 447 = .ok (.ireturn, 1) := by decide +kernel
theorem dX8_readCommand_448 : decode cX8_readCommand 448 = .ok (.aload_n 0, 1) := by decide +kernel
theorem dX8_readCommand_449 : decode cX8_readCommand 449 = .ok (.dup, 1) := by decide +kernel
theorem dX8_readCommand_450 : decode cX8_readCommand 450 = .ok (.getfield 119, 3) := by decide +kernel
theorem dX8_readCommand_453 : decode cX8_readCommand 453 = .ok (.iconst 1, 1) := by decide +kernel
theorem dX8_readCommand_454 : decode cX8_readCommand 454 = .ok (.isub, 1) := by decide +kernel
theorem dX8_readCommand_455 : decode cX8_readCommand 455 = .ok (.putfield 119, 3) := by decide +kernel
theorem dX8_readCommand_458 : decode cX8_readCommand 458 = .ok (.iconst 0, 1) := by decide +kernel
theorem dX8_readCommand_459 : decode cX8_readCommand 459 = .ok (.ireturn, 1) := by decide +kernel
theorem dX8_readText_0 : decode cX8_readText 0 = .ok (.aload_n 1, 1) := by decide +kernel
theorem dX8_readText_1 : decode cX8_readText 1 = .ok (.invokestatic 35, 3) := by decide +kernel
theorem dX8_readText_4 : decode cX8_readText 4 = .ok (.aload_n 0, 1) := by decide +kernel
theorem dX8_readText_5 : decode cX8_readText 5 = .ok (.iconst 0, 1) := by decide +kernel
theorem dX8_readText_6 : decode cX8_readText 6 = .ok (.putfield 124, 3) := by decide +kernel
theorem dX8_readText_9 : decode cX8_readText 9 = .ok (.aload_n 0, 1) := by decide +kernel
theorem dX8_readText_10 : decode cX8_readText 10 = .ok (.iconst 0, 1) := by decide +kernel
theorem dX8_readText_11 : decode cX8_readText 11 = .ok (.putfield 119, 3) := by decide +kernel
theorem dX8_readText_14 : decode cX8_readText 14 = .ok (.aload_n 0, 1) := by decide +kernel
theorem dX8_readText_15 : decode cX8_readText 15 = .ok (.getfield 112, 3) := by decide +kernel
theorem dX8_readText_18 : decode cX8_readText 18 = .ok (.ifCond .eq 14, 3) := by decide +kernel
theorem dX8_readText_21 : decode cX8_readText 21 = .ok (.aload_n 0, 1) := by decide +kernel
theorem dX8_readText_22 : decode cX8_readText 22 = .ok (.getfield 7, 3) := by decide +kernel
theorem dX8_readText_25 : decode cX8_readText 25 = .ok (.iconst 0, 1) := by decide +kernel
theorem dX8_readText_26 : decode cX8_readText 26 = .ok (.iaload, 1) := by decide +kernel
theorem dX8_readText_27 : decode cX8_readText 27 = .ok (.bipush 78, 2) := by decide +kernel
theorem dX8_readText_29 : decode cX8_readText 29 = .ok (.if_icmp .eq 5, 3) := by decide +kernel
theorem dX8_readText_32 : decode cX8_readText 32 = .ok (.iconst 0, 1) := by decide +kernel
theorem dX8_readText_33 : decode cX8_readText 33 = .ok (.ireturn, 1) := by decide +kernel
theorem dX8_readText_34 : decode cX8_readText 34 = .ok (.aload_n 0, 1) := by decide +kernel
theorem dX8_readText_35 : decode cX8_readText 35 = .ok (.iconst 1, 1) := by decide +kernel
theorem dX8_readText_36 : decode cX8_readText 36 = .ok (.putfield 119, 3) := by decide +kernel
theorem dX8_readText_39 : decode cX8_readText 39 = .ok (.aload_n 0, 1) := by decide +kernel
theorem dX8_readText_40 : decode cX8_readText 40 = .ok (.getfield 119, 3) := by decide +kernel
theorem dX8_readText_43 : decode cX8_readText 43 = .ok (.aload_n 0, 1) := by decide +kernel
theorem dX8_readText_44 : decode cX8_readText 44 = .ok (.getfield 112, 3) := by decide +kernel
theorem dX8_readText_47 : decode cX8_readText 47 = .ok (.if_icmp .ge 16, 3) := by decide +kernel
theorem dX8_readText_50 : decode cX8_readText 50 = .ok (.aload_n 0, 1) := by decide +kernel
theorem dX8_readText_51 : decode cX8_readText 51 = .ok (.aload_n 1, 1) := by decide +kernel
theorem dX8_readText_52 : decode cX8_readText 52 = .ok (.invokevirtual 169, 3) := by decide +kernel
theorem dX8_readText_55 : decode cX8_readText 55 = .ok (.ifCond .ne (-16), 3) := by decide +kernel
theorem dX8_readText_58 : decode cX8_readText 58 = .ok (.aload_n 0, 1) := by decide +kernel
theorem dX8_readText_59 : decode cX8_readText 59 = .ok (.getfield 119, 3) := by decide +kernel
theorem dX8_readText_62 : decode cX8_readText 62 = .ok (.ireturn, 1) := by decide +kernel
theorem dX8_readText_63 : decode cX8_readText 63 = .ok (.iconst (-1), 1) := by decide +kernel
theorem dX8_readText_64 : decode cX8_readText 64 = .ok (.ireturn, 1) := by decide +kernel
theorem dX8_errorPosition_0 : decode cX8_errorPosition 0 = .ok (.aload_n 0, 1) := by decide +kernel
theorem dX8_errorPosition_1 : decode cX8_errorPosition 1 = .ok (.iconst 0, 1) := by decide +kernel
theorem dX8_errorPosition_2 : decode cX8_errorPosition 2 = .ok (.putfield 39, 3) := by decide +kernel
theorem dX8_errorPosition_5 : decode cX8_errorPosition 5 = .ok (.aload_n 0, 1) := by decide +kernel
theorem dX8_errorPosition_6 : decode cX8_errorPosition 6 = .ok (.aload_n 0, 1) := by decide +kernel
theorem dX8_errorPosition_7 : decode cX8_errorPosition 7 = .ok (.getfield 16, 3) := by decide +kernel
theorem dX8_errorPosition_10 : decode cX8_errorPosition 10 = .ok (.invokevirtual 172, 3) := by decide +kernel
theorem dX8_errorPosition_13 : decode cX8_errorPosition 13 = .ok (.ireturn, 1) := by decide +kernel
theorem dX8_load_0 : decode cX8_load 0 = .ok (.aload_n 0, 1) := by decide +kernel
theorem dX8_load_1 : decode cX8_load 1 = .ok (.aload_n 0, 1) := by decide +kernel
theorem dX8_load_2 : decode cX8_load 2 = .ok (.aload_n 0, 1) := by decide +kernel
theorem dX8_load_3 : decode cX8_load 3 = .ok (.getfield 16, 3) := by decide +kernel
theorem dX8_load_6 : decode cX8_load 6 = .ok (.invokevirtual 172, 3) := by decide +kernel
theorem dX8_load_9 : decode cX8_load 9 = .ok (.iconst (-1), 1) := by decide +kernel
theorem dX8_load_10 : decode cX8_load 10 = .ok (.if_icmp .ne 7, 3) := by decide +kernel
theorem dX8_load_13 : decode cX8_load 13 = .ok (.iconst 0, 1) := by decide +kernel
theorem dX8_load_14 : decode cX8_load 14 = .ok (.goto 4, 3) := by decide +kernel
theorem dX8_load_17 : decode cX8_load 17 = .ok (.iconst 1, 1) := by decide +kernel
theorem dX8_load_18 : decode cX8_load 18 = .ok (.invokevirtual 115, 3) := by decide +kernel
theorem dX8_load_21 : decode cX8_load 21 = .ok (.ifCond .eq 5, 3) := by decide +kernel
theorem dX8_load_24 : decode cX8_load 24 = .ok (.iconst 0, 1) := by decide +kernel
theorem dX8_load_25 : decode cX8_load 25 = .ok (.ireturn, 1) := by decide +kernel
theorem dX8_load_26 : decode cX8_load 26 = .ok (.aload_n 0, 1) := by decide +kernel
theorem dX8_load_27 : decode cX8_load 27 = .ok (.getfield 16, 3) := by decide +kernel
theorem dX8_load_30 : decode cX8_load 30 = .ok (.iconst 0, 1) := by decide +kernel
theorem dX8_load_31 : decode cX8_load 31 = .ok (.aload_n 0, 1) := by decide +kernel
theorem dX8_load_32 : decode cX8_load 32 = .ok (.getfield 13, 3) := by decide +kernel
theorem dX8_load_35 : decode cX8_load 35 = .ok (.iconst 0, 1) := by decide +kernel
theorem dX8_load_36 : decode cX8_load 36 = .ok (.invokestatic 175, 3) := by decide +kernel
theorem dX8_load_39 : decode cX8_load 39 = .ok (.aload_n 0, 1) := by decide +kernel
theorem dX8_load_40 : decode cX8_load 40 = .ok (.iconst 0, 1) := by decide +kernel
theorem dX8_load_41 : decode cX8_load 41 = .ok (.putfield 179, 3) := by decide +kernel
theorem dX8_load_44 : decode cX8_load 44 = .ok (.aload_n 0, 1) := by decide +kernel
theorem dX8_load_45 : decode cX8_load 45 = .ok (.getfield 25, 3) := by decide +kernel
theorem dX8_load_48 : decode cX8_load 48 = .ok (.iconst 0, 1) := by decide +kernel
theorem dX8_load_49 : decode cX8_load 49 = .ok (.iconst 0, 1) := by decide +kernel
theorem dX8_load_50 : decode cX8_load 50 = .ok (.bastore, 1) := by decide +kernel
theorem dX8_load_51 : decode cX8_load 51 = .ok (.aload_n 0, 1) := by decide +kernel
theorem dX8_load_52 : decode cX8_load 52 = .ok (.getfield 25, 3) := by decide +kernel
theorem dX8_load_55 : decode cX8_load 55 = .ok (.iconst 1, 1) := by decide +kernel
theorem dX8_load_56 : decode cX8_load 56 = .ok (.iconst 0, 1) := by decide +kernel
theorem dX8_load_57 : decode cX8_load 57 = .ok (.bastore, 1) := by decide +kernel
theorem dX8_load_58 : decode cX8_load 58 = .ok (.aload_n 0, 1) := by decide +kernel
theorem dX8_load_59 : decode cX8_load 59 = .ok (.getfield 124, 3) := by decide +kernel
theorem dX8_load_62 : decode cX8_load 62 = .ok (.ireturn, 1) := by decide +kernel
theorem dX8_about_0 : decode cX8_about 0 = .ok (.aload_n 0, 1) := by decide +kernel
theorem dX8_about_1 : decode cX8_about 1 = .ok (.iload_n 1, 1) := by decide +kernel
theorem dX8_about_2 : decode cX8_about 2 = .ok (.i2l, 1) := by decide +kernel
theorem dX8_about_3 : decode cX8_about 3 = .ok (.lconst 0, 1) := by decide +kernel
theorem dX8_about_4 : decode cX8_about 4 = .ok (.ldc2_w 122, 3) := by decide +kernel
theorem dX8_about_7 : decode cX8_about 7 = .ok (.invokestatic 46, 3) := by decide +kernel
theorem dX8_about_10 : decode cX8_about 10 = .ok (.ifCond .eq 7, 3) := by decide +kernel
theorem dX8_about_13 : decode cX8_about 13 = .ok (.iconst 0, 1) := by decide +kernel
theorem dX8_about_14 : decode cX8_about 14 = .ok (.goto 4, 3) := by decide +kernel
theorem dX8_about_17 : decode cX8_about 17 = .ok (.iconst 1, 1) := by decide +kernel
theorem dX8_about_18 : decode cX8_about 18 = .ok (.invokevirtual 115, 3) := by decide +kernel
theorem dX8_about_21 : decode cX8_about 21 = .ok (.ifCond .eq 5, 3) := by decide +kernel
theorem dX8_about_24 : decode cX8_about 24 = .ok (.iconst 0, 1) := by decide +kernel
theorem dX8_about_25 : decode cX8_about 25 = .ok (.ireturn, 1) := by decide +kernel
theorem dX8_about_26 : decode cX8_about 26 = .ok (.iload_n 1, 1) := by decide +kernel
theorem dX8_about_27 : decode cX8_about 27 = .ok (.tableswitch 126 2 9 #[45, 55, 63, 71, 97, 104, 112, 119], 45) := by decide +kernel
theorem dX8_about_72 : decode cX8_about 72 = .ok (.aload_n 0, 1) := by decide +kernel
theorem dX8_about_73 : decode cX8_about 73 = .ok (.getfield 13, 3) := by decide +kernel
theorem dX8_about_76 : decode cX8_about 76 = .ok (.iconst 5, 1) := by decide +kernel
theorem dX8_about_77 : decode cX8_about 77 = .ok (.iaload, 1) := by decide +kernel
theorem dX8_about_78 : decode cX8_about 78 = .ok (.invokestatic 52, 3) := by decide +kernel
theorem dX8_about_81 : decode cX8_about 81 = .ok (.ireturn, 1) := by decide +kernel
theorem dX8_about_82 : decode cX8_about 82 = .ok (.aload_n 0, 1) := by decide +kernel
theorem dX8_about_83 : decode cX8_about 83 = .ok (.getfield 13, 3) := by decide +kernel
theorem dX8_about_86 : decode cX8_about 86 = .ok (.invokestatic 56, 3) := by decide +kernel
theorem dX8_about_89 : decode cX8_about 89 = .ok (.ireturn, 1) := by decide +kernel
theorem dX8_about_90 : decode cX8_about 90 = .ok (.aload_n 0, 1) := by decide +kernel
theorem dX8_about_91 : decode cX8_about 91 = .ok (.getfield 13, 3) := by decide +kernel
theorem dX8_about_94 : decode cX8_about 94 = .ok (.invokestatic 95, 3) := by decide +kernel
theorem dX8_about_97 : decode cX8_about 97 = .ok (.ireturn, 1) := by decide +kernel
theorem dX8_about_98 : decode cX8_about 98 = .ok (.aload_n 0, 1) := by decide +kernel
theorem dX8_about_99 : decode cX8_about 99 = .ok (.getfield 13, 3) := by decide +kernel
theorem dX8_about_102 : decode cX8_about 102 = .ok (.invokestatic 182, 3) := by decide +kernel
theorem dX8_about_105 : decode cX8_about 105 = .ok (.ifCond .ne 17, 3) := by decide +kernel
theorem dX8_about_108 : decode cX8_about 108 = .ok (.aload_n 0, 1) := by decide +kernel
theorem dX8_about_109 : decode cX8_about 109 = .ok (.getfield 13, 3) := by decide +kernel
theorem dX8_about_112 : decode cX8_about 112 = .ok (.invokestatic 95, 3) := by decide +kernel
theorem dX8_about_115 : decode cX8_about 115 = .ok (.ifCond .ne 7, 3) := by decide +kernel
theorem dX8_about_118 : decode cX8_about 118 = .ok (.iconst 1, 1) := by decide +kernel
theorem dX8_about_119 : decode cX8_about 119 = .ok (.goto 4, 3) := by decide +kernel
theorem dX8_about_122 : decode cX8_about 122 = .ok (.iconst 0, 1) := by decide +kernel
theorem dX8_about_123 : decode cX8_about 123 = .ok (.ireturn, 1) := by decide +kernel
theorem dX8_about_124 : decode cX8_about 124 = .ok (.aload_n 0, 1) := by decide +kernel
theorem dX8_about_125 : decode cX8_about 125 = .ok (.getfield 13, 3) := by decide +kernel
theorem dX8_about_128 : decode cX8_about 128 = .ok (.iconst 2, 1) := by decide +kernel
theorem dX8_about_129 : decode cX8_about 129 = .ok (.iaload, 1) := by decide +kernel
theorem dX8_about_130 : decode cX8_about 130 = .ok (.ireturn, 1) := by decide +kernel
theorem dX8_about_131 : decode cX8_about 131 = .ok (.aload_n 0, 1) := by decide +kernel
theorem dX8_about_132 : decode cX8_about 132 = .ok (.getfield 13, 3) := by decide +kernel
theorem dX8_about_135 : decode cX8_about 135 = .ok (.invokestatic 182, 3) := by decide +kernel
theorem dX8_about_138 : decode cX8_about 138 = .ok (.ireturn, 1) := by decide +kernel
theorem dX8_about_139 : decode cX8_about 139 = .ok (.aload_n 0, 1) := by decide +kernel
theorem dX8_about_140 : decode cX8_about 140 = .ok (.getfield 13, 3) := by decide +kernel
theorem dX8_about_143 : decode cX8_about 143 = .ok (.iconst 3, 1) := by decide +kernel
theorem dX8_about_144 : decode cX8_about 144 = .ok (.iaload, 1) := by decide +kernel
theorem dX8_about_145 : decode cX8_about 145 = .ok (.ireturn, 1) := by decide +kernel
theorem dX8_about_146 : decode cX8_about 146 = .ok (.aload_n 0, 1) := by decide +kernel
theorem dX8_about_147 : decode cX8_about 147 = .ok (.getfield 13, 3) := by decide +kernel
theorem dX8_about_150 : decode cX8_about 150 = .ok (.iconst 4, 1) := by decide +kernel
theorem dX8_about_151 : decode cX8_about 151 = .ok (.iaload, 1) := by decide +kernel
theorem dX8_about_152 : decode cX8_about 152 = .ok (.ireturn, 1) := by decide +kernel
theorem dX8_about_153 : decode cX8_about 153 = .ok (.aload_n 0, 1) := by decide +kernel
theorem dX8_about_154 : decode cX8_about 154 = .ok (.getfield 13, 3) := by decide +kernel
theorem dX8_about_157 : decode cX8_about 157 = .ok (.iload_n 1, 1) := by decide +kernel
theorem dX8_about_158 : decode cX8_about 158 = .ok (.iaload, 1) := by decide +kernel
theorem dX8_about_159 : decode cX8_about 159 = .ok (.ireturn, 1) := by decide +kernel
theorem dX8_jewelOf_0 : decode cX8_jewelOf 0 = .ok (.aload_n 0, 1) := by decide +kernel
theorem dX8_jewelOf_1 : decode cX8_jewelOf 1 = .ok (.aload_n 0, 1) := by decide +kernel
theorem dX8_jewelOf_2 : decode cX8_jewelOf 2 = .ok (.getfield 13, 3) := by decide +kernel
theorem dX8_jewelOf_5 : decode cX8_jewelOf 5 = .ok (.iload_n 1, 1) := by decide +kernel
theorem dX8_jewelOf_6 : decode cX8_jewelOf 6 = .ok (.invokestatic 144, 3) := by decide +kernel
theorem dX8_jewelOf_9 : decode cX8_jewelOf 9 = .ok (.ifCond .ne 7, 3) := by decide +kernel
theorem dX8_jewelOf_12 : decode cX8_jewelOf 12 = .ok (.iconst 1, 1) := by decide +kernel
theorem dX8_jewelOf_13 : decode cX8_jewelOf 13 = .ok (.goto 20, 3) := by decide +kernel
theorem dX8_jewelOf_16 : decode cX8_jewelOf 16 = .ok (.iload_n 2, 1) := by decide +kernel
theorem dX8_jewelOf_17 : decode cX8_jewelOf 17 = .ok (.i2l, 1) := by decide +kernel
theorem dX8_jewelOf_18 : decode cX8_jewelOf 18 = .ok (.lconst 0, 1) := by decide +kernel
theorem dX8_jewelOf_19 : decode cX8_jewelOf 19 = .ok (.ldc2_w 185, 3) := by decide +kernel
theorem dX8_jewelOf_22 : decode cX8_jewelOf 22 = .ok (.invokestatic 46, 3) := by decide +kernel
theorem dX8_jewelOf_25 : decode cX8_jewelOf 25 = .ok (.ifCond .eq 7, 3) := by decide +kernel
theorem dX8_jewelOf_28 : decode cX8_jewelOf 28 = .ok (.iconst 0, 1) := by decide +kernel
theorem dX8_jewelOf_29 : decode cX8_jewelOf 29 = .ok (.goto 4, 3) := by decide +kernel
theorem dX8_jewelOf_32 : decode cX8_jewelOf 32 = .ok (.iconst 2, 1) := by decide +kernel
theorem dX8_jewelOf_33 : decode cX8_jewelOf 33 = .ok (.invokevirtual 115, 3) := by decide +kernel
theorem dX8_jewelOf_36 : decode cX8_jewelOf 36 = .ok (.ifCond .eq 5, 3) := by decide +kernel
theorem dX8_jewelOf_39 : decode cX8_jewelOf 39 = .ok (.iconst 0, 1) := by decide +kernel
theorem dX8_jewelOf_40 : decode cX8_jewelOf 40 = .ok (.ireturn, 1) := by decide +kernel
theorem dX8_jewelOf_41 : decode cX8_jewelOf 41 = .ok (.iload_n 2, 1) := by decide +kernel
theorem dX8_jewelOf_42 : decode cX8_jewelOf 42 = .ok (.ifCond .ne 15, 3) := by decide +kernel
theorem dX8_jewelOf_45 : decode cX8_jewelOf 45 = .ok (.aload_n 0, 1) := by decide +kernel
theorem dX8_jewelOf_46 : decode cX8_jewelOf 46 = .ok (.getfield 13, 3) := by decide +kernel
theorem dX8_jewelOf_49 : decode cX8_jewelOf 49 = .ok (.bipush 6, 2) := by decide +kernel
theorem dX8_jewelOf_51 : decode cX8_jewelOf 51 = .ok (.iload_n 1, 1) := by decide +kernel
theorem dX8_jewelOf_52 : decode cX8_jewelOf 52 = .ok (.iadd, 1) := by decide +kernel
theorem dX8_jewelOf_53 : decode cX8_jewelOf 53 = .ok (.iaload, 1) := by decide +kernel
theorem dX8_jewelOf_54 : decode cX8_jewelOf 54 = .ok (.goto 28, 3) := by decide +kernel
theorem dX8_jewelOf_57 : decode cX8_jewelOf 57 = .ok (.iload_n 2, 1) := by decide +kernel
theorem dX8_jewelOf_58 : decode cX8_jewelOf 58 = .ok (.iconst 1, 1) := by decide +kernel
theorem dX8_jewelOf_59 : decode cX8_jewelOf 59 = .ok (.if_icmp .ne 15, 3) := by decide +kernel
theorem dX8_jewelOf_62 : decode cX8_jewelOf 62 = .ok (.aload_n 0, 1) := by decide +kernel
theorem dX8_jewelOf_63 : decode cX8_jewelOf 63 = .ok (.getfield 13, 3) := by decide +kernel
theorem dX8_jewelOf_66 : decode cX8_jewelOf 66 = .ok (.bipush 22, 2) := by decide +kernel
theorem dX8_jewelOf_68 : decode cX8_jewelOf 68 = .ok (.iload_n 1, 1) := by decide +kernel
theorem dX8_jewelOf_69 : decode cX8_jewelOf 69 = .ok (.iadd, 1) := by decide +kernel
theorem dX8_jewelOf_70 : decode cX8_jewelOf 70 = .ok (.iaload, 1) := by decide +kernel
theorem dX8_jewelOf_71 : decode cX8_jewelOf 71 = .ok (.goto 11, 3) := by decide +kernel
theorem dX8_jewelOf_74 : decode cX8_jewelOf 74 = .ok (.aload_n 0, 1) := by decide +kernel
theorem dX8_jewelOf_75 : decode cX8_jewelOf 75 = .ok (.getfield 13, 3) := by decide +kernel
theorem dX8_jewelOf_78 : decode cX8_jewelOf 78 = .ok (.iload_n 1, 1) := by decide +kernel
theorem dX8_jewelOf_79 : decode cX8_jewelOf 79 = .ok (.invokestatic 187, 3) := by decide +kernel
theorem dX8_jewelOf_82 : decode cX8_jewelOf 82 = .ok (.ireturn, 1) := by decide +kernel
theorem dX8_placeOf_0 : decode cX8_placeOf 0 = .ok (.aload_n 0, 1) := by decide +kernel
theorem dX8_placeOf_1 : decode cX8_placeOf 1 = .ok (.aload_n 0, 1) := by decide +kernel
theorem dX8_placeOf_2 : decode cX8_placeOf 2 = .ok (.getfield 13, 3) := by decide +kernel
theorem dX8_placeOf_5 : decode cX8_placeOf 5 = .ok (.iload_n 1, 1) := by decide +kernel
theorem dX8_placeOf_6 : decode cX8_placeOf 6 = .ok (.invokestatic 144, 3) := by decide +kernel
theorem dX8_placeOf_9 : decode cX8_placeOf 9 = .ok (.ifCond .ne 7, 3) := by decide +kernel
theorem dX8_placeOf_12 : decode cX8_placeOf 12 = .ok (.iconst 1, 1) := by decide +kernel
theorem dX8_placeOf_13 : decode cX8_placeOf 13 = .ok (.goto 20, 3) := by decide +kernel
theorem dX8_placeOf_16 : decode cX8_placeOf 16 = .ok (.iload_n 2, 1) := by decide +kernel
theorem dX8_placeOf_17 : decode cX8_placeOf 17 = .ok (.i2l, 1) := by decide +kernel
theorem dX8_placeOf_18 : decode cX8_placeOf 18 = .ok (.lconst 0, 1) := by decide +kernel
theorem dX8_placeOf_19 : decode cX8_placeOf 19 = .ok (.ldc2_w 127, 3) := by decide +kernel
theorem dX8_placeOf_22 : decode cX8_placeOf 22 = .ok (.invokestatic 46, 3) := by decide +kernel
theorem dX8_placeOf_25 : decode cX8_placeOf 25 = .ok (.ifCond .eq 7, 3) := by decide +kernel
theorem dX8_placeOf_28 : decode cX8_placeOf 28 = .ok (.iconst 0, 1) := by decide +kernel
theorem dX8_placeOf_29 : decode cX8_placeOf 29 = .ok (.goto 4, 3) := by decide +kernel
theorem dX8_placeOf_32 : decode cX8_placeOf 32 = .ok (.iconst 2, 1) := by decide +kernel
theorem dX8_placeOf_33 : decode cX8_placeOf 33 = .ok (.invokevirtual 115, 3) := by decide +kernel
theorem dX8_placeOf_36 : decode cX8_placeOf 36 = .ok (.ifCond .eq 5, 3) := by decide +kernel
theorem dX8_placeOf_39 : decode cX8_placeOf 39 = .ok (.iconst 0, 1) := by decide +kernel
theorem dX8_placeOf_40 : decode cX8_placeOf 40 = .ok (.ireturn, 1) := by decide +kernel
theorem dX8_placeOf_41 : decode cX8_placeOf 41 = .ok (.iload_n 2, 1) := by decide +kernel
theorem dX8_placeOf_42 : decode cX8_placeOf 42 = .ok (.ifCond .ne 14, 3) := by decide +kernel
theorem dX8_placeOf_45 : decode cX8_placeOf 45 = .ok (.aload_n 0, 1) := by decide +kernel
theorem dX8_placeOf_46 : decode cX8_placeOf 46 = .ok (.getfield 13, 3) := by decide +kernel
theorem dX8_placeOf_49 : decode cX8_placeOf 49 = .ok (.iload_n 1, 1) := by decide +kernel
theorem dX8_placeOf_50 : decode cX8_placeOf 50 = .ok (.invokestatic 68, 3) := by decide +kernel
theorem dX8_placeOf_53 : decode cX8_placeOf 53 = .ok (.goto 52, 3) := by decide +kernel
theorem dX8_placeOf_56 : decode cX8_placeOf 56 = .ok (.iload_n 2, 1) := by decide +kernel
theorem dX8_placeOf_57 : decode cX8_placeOf 57 = .ok (.iconst 1, 1) := by decide +kernel
theorem dX8_placeOf_58 : decode cX8_placeOf 58 = .ok (.if_icmp .ne 15, 3) := by decide +kernel
theorem dX8_placeOf_61 : decode cX8_placeOf 61 = .ok (.aload_n 0, 1) := by decide +kernel
theorem dX8_placeOf_62 : decode cX8_placeOf 62 = .ok (.getfield 13, 3) := by decide +kernel
theorem dX8_placeOf_65 : decode cX8_placeOf 65 = .ok (.bipush 38, 2) := by decide +kernel
theorem dX8_placeOf_67 : decode cX8_placeOf 67 = .ok (.iload_n 1, 1) := by decide +kernel
theorem dX8_placeOf_68 : decode cX8_placeOf 68 = .ok (.iadd, 1) := by decide +kernel
theorem dX8_placeOf_69 : decode cX8_placeOf 69 = .ok (.iaload, 1) := by decide +kernel
theorem dX8_placeOf_70 : decode cX8_placeOf 70 = .ok (.goto 35, 3) := by decide +kernel
theorem dX8_placeOf_73 : decode cX8_placeOf 73 = .ok (.iload_n 2, 1) := by decide +kernel
theorem dX8_placeOf_74 : decode cX8_placeOf 74 = .ok (.iconst 2, 1) := by decide +kernel
theorem dX8_placeOf_75 : decode cX8_placeOf 75 = .ok (.if_icmp .ne 14, 3) := by decide +kernel
theorem dX8_placeOf_78 : decode cX8_placeOf 78 = .ok (.aload_n 0, 1) := by decide +kernel
theorem dX8_placeOf_79 : decode cX8_placeOf 79 = .ok (.getfield 13, 3) := by decide +kernel
theorem dX8_placeOf_82 : decode cX8_placeOf 82 = .ok (.iload_n 1, 1) := by decide +kernel
theorem dX8_placeOf_83 : decode cX8_placeOf 83 = .ok (.invokestatic 64, 3) := by decide +kernel
theorem dX8_placeOf_86 : decode cX8_placeOf 86 = .ok (.goto 19, 3) := by decide +kernel
theorem dX8_placeOf_89 : decode cX8_placeOf 89 = .ok (.aload_n 0, 1) := by decide +kernel
theorem dX8_placeOf_90 : decode cX8_placeOf 90 = .ok (.getfield 13, 3) := by decide +kernel
theorem dX8_placeOf_93 : decode cX8_placeOf 93 = .ok (.iload_n 1, 1) := by decide +kernel
theorem dX8_placeOf_94 : decode cX8_placeOf 94 = .ok (.invokestatic 60, 3) := by decide +kernel
theorem dX8_placeOf_97 : decode cX8_placeOf 97 = .ok (.ifCond .eq 7, 3) := by decide +kernel
theorem dX8_placeOf_100 : decode cX8_placeOf 100 = .ok (.iconst 1, 1) := by decide +kernel
theorem dX8_placeOf_101 : decode cX8_placeOf 101 = .ok (.goto 4, 3) := by decide +kernel
theorem dX8_placeOf_104 : decode cX8_placeOf 104 = .ok (.iconst 0, 1) := by decide +kernel
theorem dX8_placeOf_105 : decode cX8_placeOf 105 = .ok (.ireturn, 1) := by decide +kernel
theorem dX8_runOf_0 : decode cX8_runOf 0 = .ok (.aload_n 0, 1) := by decide +kernel
theorem dX8_runOf_1 : decode cX8_runOf 1 = .ok (.aload_n 0, 1) := by decide +kernel
theorem dX8_runOf_2 : decode cX8_runOf 2 = .ok (.getfield 13, 3) := by decide +kernel
theorem dX8_runOf_5 : decode cX8_runOf 5 = .ok (.iload_n 1, 1) := by decide +kernel
theorem dX8_runOf_6 : decode cX8_runOf 6 = .ok (.invokestatic 157, 3) := by decide +kernel
theorem dX8_runOf_9 : decode cX8_runOf 9 = .ok (.ifCond .ne 7, 3) := by decide +kernel
theorem dX8_runOf_12 : decode cX8_runOf 12 = .ok (.iconst 1, 1) := by decide +kernel
theorem dX8_runOf_13 : decode cX8_runOf 13 = .ok (.goto 20, 3) := by decide +kernel
theorem dX8_runOf_16 : decode cX8_runOf 16 = .ok (.iload_n 2, 1) := by decide +kernel
theorem dX8_runOf_17 : decode cX8_runOf 17 = .ok (.i2l, 1) := by decide +kernel
theorem dX8_runOf_18 : decode cX8_runOf 18 = .ok (.lconst 0, 1) := by decide +kernel
theorem dX8_runOf_19 : decode cX8_runOf 19 = .ok (.ldc2_w 127, 3) := by decide +kernel
theorem dX8_runOf_22 : decode cX8_runOf 22 = .ok (.invokestatic 46, 3) := by decide +kernel
theorem dX8_runOf_25 : decode cX8_runOf 25 = .ok (.ifCond .eq 7, 3) := by decide +kernel
theorem dX8_runOf_28 : decode cX8_runOf 28 = .ok (.iconst 0, 1) := by decide +kernel
theorem dX8_runOf_29 : decode cX8_runOf 29 = .ok (.goto 4, 3) := by decide +kernel
theorem dX8_runOf_32 : decode cX8_runOf 32 = .ok (.iconst 2, 1) := by decide +kernel
theorem dX8_runOf_33 : decode cX8_runOf 33 = .ok (.invokevirtual 115, 3) := by decide +kernel
theorem dX8_runOf_36 : decode cX8_runOf 36 = .ok (.ifCond .eq 5, 3) := by decide +kernel
theorem dX8_runOf_39 : decode cX8_runOf 39 = .ok (.iconst 0, 1) := by decide +kernel
theorem dX8_runOf_40 : decode cX8_runOf 40 = .ok (.ireturn, 1) := by decide +kernel
theorem dX8_runOf_41 : decode cX8_runOf 41 = .ok (.aload_n 0, 1) := by decide +kernel
theorem dX8_runOf_42 : decode cX8_runOf 42 = .ok (.getfield 13, 3) := by decide +kernel
theorem dX8_runOf_45 : decode cX8_runOf 45 = .ok (.iload_n 1, 1) := by decide +kernel
theorem dX8_runOf_46 : decode cX8_runOf 46 = .ok (.invokestatic 101, 3) := by decide +kernel
theorem dX8_runOf_49 : decode cX8_runOf 49 = .ok (.istore_n 3, 1) := by decide +kernel
theorem dX8_runOf_50 : decode cX8_runOf 50 = .ok (.aload_n 0, 1) := by decide +kernel
theorem dX8_runOf_51 : decode cX8_runOf 51 = .ok (.getfield 13, 3) := by decide +kernel
theorem dX8_runOf_54 : decode cX8_runOf 54 = .ok (.iload_n 1, 1) := by decide +kernel
theorem dX8_runOf_55 : decode cX8_runOf 55 = .ok (.invokestatic 190, 3) := by decide +kernel
theorem dX8_runOf_58 : decode cX8_runOf 58 = .ok (.istore 4, 2) := by decide +kernel
theorem dX8_runOf_60 : decode cX8_runOf 60 = .ok (.iconst 0, 1) := by decide +kernel
theorem dX8_runOf_61 : decode cX8_runOf 61 = .ok (.istore 5, 2) := by decide +kernel
theorem dX8_runOf_63 : decode cX8_runOf 63 = .ok (.iload_n 3, 1) := by decide +kernel
theorem dX8_runOf_64 : decode cX8_runOf 64 = .ok (.istore 6, 2) := by decide +kernel
theorem dX8_runOf_66 : decode cX8_runOf 66 = .ok (.iload 6, 2) := by decide +kernel
theorem dX8_runOf_68 : decode cX8_runOf 68 = .ok (.iload_n 3, 1) := by decide +kernel
theorem dX8_runOf_69 : decode cX8_runOf 69 = .ok (.iload 4, 2) := by decide +kernel
theorem dX8_runOf_71 : decode cX8_runOf 71 = .ok (.iadd, 1) := by decide +kernel
theorem dX8_runOf_72 : decode cX8_runOf 72 = .ok (.if_icmp .ge 30, 3) := by decide +kernel
theorem dX8_runOf_75 : decode cX8_runOf 75 = .ok (.iload 5, 2) := by decide +kernel
theorem dX8_runOf_77 : decode cX8_runOf 77 = .ok (.aload_n 0, 1) := by decide +kernel
theorem dX8_runOf_78 : decode cX8_runOf 78 = .ok (.getfield 13, 3) := by decide +kernel
theorem dX8_runOf_81 : decode cX8_runOf 81 = .ok (.aload_n 0, 1) := by decide +kernel
theorem dX8_runOf_82 : decode cX8_runOf 82 = .ok (.getfield 13, 3) := by decide +kernel
theorem dX8_runOf_85 : decode cX8_runOf 85 = .ok (.iload 6, 2) := by decide +kernel
theorem dX8_runOf_87 : decode cX8_runOf 87 = .ok (.invokestatic 68, 3) := by decide +kernel
theorem dX8_runOf_90 : decode cX8_runOf 90 = .ok (.invokestatic 71, 3) := by decide +kernel
theorem dX8_runOf_93 : decode cX8_runOf 93 = .ok (.iadd, 1) := by decide +kernel
theorem dX8_runOf_94 : decode cX8_runOf 94 = .ok (.istore 5, 2) := by decide +kernel
theorem dX8_runOf_96 : decode cX8_runOf 96 = .ok (.iinc 6 1, 3) := by decide +kernel
theorem dX8_runOf_99 : decode cX8_runOf 99 = .ok (.goto (-33), 3) := by decide +kernel
theorem dX8_runOf_102 : decode cX8_runOf 102 = .ok (.iload_n 2, 1) := by decide +kernel
theorem dX8_runOf_103 : decode cX8_runOf 103 = .ok (.ifCond .ne 7, 3) := by decide +kernel
theorem dX8_runOf_106 : decode cX8_runOf 106 = .ok (.iload_n 3, 1) := by decide +kernel
theorem dX8_runOf_107 : decode cX8_runOf 107 = .ok (.goto 32, 3) := by decide +kernel
theorem dX8_runOf_110 : decode cX8_runOf 110 = .ok (.iload_n 2, 1) := by decide +kernel
theorem dX8_runOf_111 : decode cX8_runOf 111 = .ok (.iconst 1, 1) := by decide +kernel
theorem dX8_runOf_112 : decode cX8_runOf 112 = .ok (.if_icmp .ne 8, 3) := by decide +kernel
theorem dX8_runOf_115 : decode cX8_runOf 115 = .ok (.iload 4, 2) := by decide +kernel
theorem dX8_runOf_117 : decode cX8_runOf 117 = .ok (.goto 22, 3) := by decide +kernel
theorem dX8_runOf_120 : decode cX8_runOf 120 = .ok (.iload_n 2, 1) := by decide +kernel
theorem dX8_runOf_121 : decode cX8_runOf 121 = .ok (.iconst 2, 1) := by decide +kernel
theorem dX8_runOf_122 : decode cX8_runOf 122 = .ok (.if_icmp .ne 15, 3) := by decide +kernel
theorem dX8_runOf_125 : decode cX8_runOf 125 = .ok (.aload_n 0, 1) := by decide +kernel
theorem dX8_runOf_126 : decode cX8_runOf 126 = .ok (.getfield 13, 3) := by decide +kernel
theorem dX8_runOf_129 : decode cX8_runOf 129 = .ok (.bipush 38, 2) := by decide +kernel
theorem dX8_runOf_131 : decode cX8_runOf 131 = .ok (.iload_n 3, 1) := by decide +kernel
theorem dX8_runOf_132 : decode cX8_runOf 132 = .ok (.iadd, 1) := by decide +kernel
theorem dX8_runOf_133 : decode cX8_runOf 133 = .ok (.iaload, 1) := by decide +kernel
theorem dX8_runOf_134 : decode cX8_runOf 134 = .ok (.goto 5, 3) := by decide +kernel
theorem dX8_runOf_137 : decode cX8_runOf 137 = .ok (.iload 5, 2) := by decide +kernel
theorem dX8_runOf_139 : decode cX8_runOf 139 = .ok (.ireturn, 1) := by decide +kernel
theorem dX8_has_0 : decode cX8_has 0 = .ok (.aload_n 0, 1) := by decide +kernel
theorem dX8_has_1 : decode cX8_has 1 = .ok (.iload_n 1, 1) := by decide +kernel
theorem dX8_has_2 : decode cX8_has 2 = .ok (.i2l, 1) := by decide +kernel
theorem dX8_has_3 : decode cX8_has 3 = .ok (.lconst 0, 1) := by decide +kernel
theorem dX8_has_4 : decode cX8_has 4 = .ok (.lconst 1, 1) := by decide +kernel
theorem dX8_has_5 : decode cX8_has 5 = .ok (.invokestatic 46, 3) := by decide +kernel
theorem dX8_has_8 : decode cX8_has 8 = .ok (.ifCond .eq 19, 3) := by decide +kernel
theorem dX8_has_11 : decode cX8_has 11 = .ok (.iload_n 2, 1) := by decide +kernel
theorem dX8_has_12 : decode cX8_has 12 = .ok (.i2l, 1) := by decide +kernel
theorem dX8_has_13 : decode cX8_has 13 = .ok (.lconst 0, 1) := by decide +kernel
theorem dX8_has_14 : decode cX8_has 14 = .ok (.ldc2_w 127, 3) := by decide +kernel
theorem dX8_has_17 : decode cX8_has 17 = .ok (.invokestatic 46, 3) := by decide +kernel
theorem dX8_has_20 : decode cX8_has 20 = .ok (.ifCond .eq 7, 3) := by decide +kernel
theorem dX8_has_23 : decode cX8_has 23 = .ok (.iconst 0, 1) := by decide +kernel
theorem dX8_has_24 : decode cX8_has 24 = .ok (.goto 4, 3) := by decide +kernel
theorem dX8_has_27 : decode cX8_has 27 = .ok (.iconst 1, 1) := by decide +kernel
theorem dX8_has_28 : decode cX8_has 28 = .ok (.invokevirtual 115, 3) := by decide +kernel
theorem dX8_has_31 : decode cX8_has 31 = .ok (.ifCond .eq 5, 3) := by decide +kernel
theorem dX8_has_34 : decode cX8_has 34 = .ok (.iconst 0, 1) := by decide +kernel
theorem dX8_has_35 : decode cX8_has 35 = .ok (.ireturn, 1) := by decide +kernel
theorem dX8_has_36 : decode cX8_has 36 = .ok (.aload_n 0, 1) := by decide +kernel
theorem dX8_has_37 : decode cX8_has 37 = .ok (.getfield 13, 3) := by decide +kernel
theorem dX8_has_40 : decode cX8_has 40 = .ok (.iload_n 1, 1) := by decide +kernel
theorem dX8_has_41 : decode cX8_has 41 = .ok (.iload_n 2, 1) := by decide +kernel
theorem dX8_has_42 : decode cX8_has 42 = .ok (.invokestatic 74, 3) := by decide +kernel
theorem dX8_has_45 : decode cX8_has 45 = .ok (.ireturn, 1) := by decide +kernel
theorem dX8_remember_0 : decode cX8_remember 0 = .ok (.aload_n 0, 1) := by decide +kernel
theorem dX8_remember_1 : decode cX8_remember 1 = .ok (.getfield 179, 3) := by decide +kernel
theorem dX8_remember_4 : decode cX8_remember 4 = .ok (.bipush 14, 2) := by decide +kernel
theorem dX8_remember_6 : decode cX8_remember 6 = .ok (.if_icmp .ne 43, 3) := by decide +kernel
theorem dX8_remember_9 : decode cX8_remember 9 = .ok (.iconst 0, 1) := by decide +kernel
theorem dX8_remember_10 : decode cX8_remember 10 = .ok (.istore_n 1, 1) := by decide +kernel
theorem dX8_remember_11 : decode cX8_remember 11 = .ok (.iload_n 1, 1) := by decide +kernel
theorem dX8_remember_12 : decode cX8_remember 12 = .ok (.sipush 702, 3) := by decide +kernel
theorem dX8_remember_15 : decode cX8_remember 15 = .ok (.if_icmp .ge 24, 3) := by decide +kernel
theorem dX8_remember_18 : decode cX8_remember 18 = .ok (.aload_n 0, 1) := by decide +kernel
theorem dX8_remember_19 : decode cX8_remember 19 = .ok (.getfield 19, 3) := by decide +kernel
theorem dX8_remember_22 : decode cX8_remember 22 = .ok (.iload_n 1, 1) := by decide +kernel
theorem dX8_remember_23 : decode cX8_remember 23 = .ok (.aload_n 0, 1) := by decide +kernel
theorem dX8_remember_24 : decode cX8_remember 24 = .ok (.getfield 19, 3) := by decide +kernel
theorem dX8_remember_27 : decode cX8_remember 27 = .ok (.iload_n 1, 1) := by decide +kernel
theorem dX8_remember_28 : decode cX8_remember 28 = .ok (.bipush 54, 2) := by decide +kernel
theorem dX8_remember_30 : decode cX8_remember 30 = .ok (.iadd, 1) := by decide +kernel
theorem dX8_remember_31 : decode cX8_remember 31 = .ok (.iaload, 1) := by decide +kernel
theorem dX8_remember_32 : decode cX8_remember 32 = .ok (.iastore, 1) := by decide +kernel
theorem dX8_remember_33 : decode cX8_remember 33 = .ok (.iinc 1 1, 3) := by decide +kernel
theorem dX8_remember_36 : decode cX8_remember 36 = .ok (.goto (-25), 3) := by decide +kernel
theorem dX8_remember_39 : decode cX8_remember 39 = .ok (.aload_n 0, 1) := by decide +kernel
theorem dX8_remember_40 : decode cX8_remember 40 = .ok (.dup, 1) := by decide +kernel
theorem dX8_remember_41 : decode cX8_remember 41 = .ok (.getfield 179, 3) := by decide +kernel
theorem dX8_remember_44 : decode cX8_remember 44 = .ok (.iconst 1, 1) := by decide +kernel
theorem dX8_remember_45 : decode cX8_remember 45 = .ok (.isub, 1) := by decide +kernel
theorem dX8_remember_46 : decode cX8_remember 46 = .ok (.putfield 179, 3) := by decide +kernel
theorem dX8_remember_49 : decode cX8_remember 49 = .ok (.aload_n 0, 1) := by decide +kernel
theorem dX8_remember_50 : decode cX8_remember 50 = .ok (.getfield 13, 3) := by decide +kernel
theorem dX8_remember_53 : decode cX8_remember 53 = .ok (.iconst 0, 1) := by decide +kernel
theorem dX8_remember_54 : decode cX8_remember 54 = .ok (.aload_n 0, 1) := by decide +kernel
theorem dX8_remember_55 : decode cX8_remember 55 = .ok (.getfield 19, 3) := by decide +kernel
theorem dX8_remember_58 : decode cX8_remember 58 = .ok (.bipush 54, 2) := by decide +kernel
theorem dX8_remember_60 : decode cX8_remember 60 = .ok (.aload_n 0, 1) := by decide +kernel
theorem dX8_remember_61 : decode cX8_remember 61 = .ok (.getfield 179, 3) := by decide +kernel
theorem dX8_remember_64 : decode cX8_remember 64 = .ok (.imul, 1) := by decide +kernel
theorem dX8_remember_65 : decode cX8_remember 65 = .ok (.invokestatic 175, 3) := by decide +kernel
theorem dX8_remember_68 : decode cX8_remember 68 = .ok (.aload_n 0, 1) := by decide +kernel
theorem dX8_remember_69 : decode cX8_remember 69 = .ok (.dup, 1) := by decide +kernel
theorem dX8_remember_70 : decode cX8_remember 70 = .ok (.getfield 179, 3) := by decide +kernel
theorem dX8_remember_73 : decode cX8_remember 73 = .ok (.iconst 1, 1) := by decide +kernel
theorem dX8_remember_74 : decode cX8_remember 74 = .ok (.iadd, 1) := by decide +kernel
theorem dX8_remember_75 : decode cX8_remember 75 = .ok (.putfield 179, 3) := by decide +kernel
theorem dX8_remember_78 : decode cX8_remember 78 = .ok (.return_, 1) := by decide +kernel
theorem dX8_jewel_0 : decode cX8_jewel 0 = .ok (.aload_n 0, 1) := by decide +kernel
theorem dX8_jewel_1 : decode cX8_jewel 1 = .ok (.iload_n 1, 1) := by decide +kernel
theorem dX8_jewel_2 : decode cX8_jewel 2 = .ok (.i2l, 1) := by decide +kernel
theorem dX8_jewel_3 : decode cX8_jewel 3 = .ok (.lconst 0, 1) := by decide +kernel
theorem dX8_jewel_4 : decode cX8_jewel 4 = .ok (.ldc2_w 127, 3) := by decide +kernel
theorem dX8_jewel_7 : decode cX8_jewel 7 = .ok (.invokestatic 46, 3) := by decide +kernel
theorem dX8_jewel_10 : decode cX8_jewel 10 = .ok (.ifCond .ne 7, 3) := by decide +kernel
theorem dX8_jewel_13 : decode cX8_jewel 13 = .ok (.iconst 1, 1) := by decide +kernel
theorem dX8_jewel_14 : decode cX8_jewel 14 = .ok (.goto 35, 3) := by decide +kernel
theorem dX8_jewel_17 : decode cX8_jewel 17 = .ok (.iload_n 2, 1) := by decide +kernel
theorem dX8_jewel_18 : decode cX8_jewel 18 = .ok (.i2l, 1) := by decide +kernel
theorem dX8_jewel_19 : decode cX8_jewel 19 = .ok (.lconst 1, 1) := by decide +kernel
theorem dX8_jewel_20 : decode cX8_jewel 20 = .ok (.ldc2_w 122, 3) := by decide +kernel
theorem dX8_jewel_23 : decode cX8_jewel 23 = .ok (.invokestatic 46, 3) := by decide +kernel
theorem dX8_jewel_26 : decode cX8_jewel 26 = .ok (.ifCond .ne 7, 3) := by decide +kernel
theorem dX8_jewel_29 : decode cX8_jewel 29 = .ok (.iconst 2, 1) := by decide +kernel
theorem dX8_jewel_30 : decode cX8_jewel 30 = .ok (.goto 19, 3) := by decide +kernel
theorem dX8_jewel_33 : decode cX8_jewel 33 = .ok (.aload_n 0, 1) := by decide +kernel
theorem dX8_jewel_34 : decode cX8_jewel 34 = .ok (.getfield 13, 3) := by decide +kernel
theorem dX8_jewel_37 : decode cX8_jewel 37 = .ok (.iconst 0, 1) := by decide +kernel
theorem dX8_jewel_38 : decode cX8_jewel 38 = .ok (.iaload, 1) := by decide +kernel
theorem dX8_jewel_39 : decode cX8_jewel 39 = .ok (.bipush 16, 2) := by decide +kernel
theorem dX8_jewel_41 : decode cX8_jewel 41 = .ok (.if_icmp .ge 7, 3) := by decide +kernel
theorem dX8_jewel_44 : decode cX8_jewel 44 = .ok (.iconst 0, 1) := by decide +kernel
theorem dX8_jewel_45 : decode cX8_jewel 45 = .ok (.goto 4, 3) := by decide +kernel
theorem dX8_jewel_48 : decode cX8_jewel 48 = .ok (.iconst 3, 1) := by decide +kernel
theorem dX8_jewel_49 : decode cX8_jewel 49 = .ok (.invokevirtual 115, 3) := by decide +kernel
theorem dX8_jewel_52 : decode cX8_jewel 52 = .ok (.ifCond .eq 5, 3) := by decide +kernel
theorem dX8_jewel_55 : decode cX8_jewel 55 = .ok (.iconst 0, 1) := by decide +kernel
theorem dX8_jewel_56 : decode cX8_jewel 56 = .ok (.ireturn, 1) := by decide +kernel
theorem dX8_jewel_57 : decode cX8_jewel 57 = .ok (.aload_n 0, 1) := by decide +kernel
theorem dX8_jewel_58 : decode cX8_jewel 58 = .ok (.invokevirtual 193, 3) := by decide +kernel
theorem dX8_jewel_61 : decode cX8_jewel 61 = .ok (.aload_n 0, 1) := by decide +kernel
theorem dX8_jewel_62 : decode cX8_jewel 62 = .ok (.getfield 13, 3) := by decide +kernel
theorem dX8_jewel_65 : decode cX8_jewel 65 = .ok (.iload_n 1, 1) := by decide +kernel
theorem dX8_jewel_66 : decode cX8_jewel 66 = .ok (.iload_n 2, 1) := by decide +kernel
theorem dX8_jewel_67 : decode cX8_jewel 67 = .ok (.invokestatic 133, 3) := by decide +kernel
theorem dX8_jewel_70 : decode cX8_jewel 70 = .ok (.ireturn, 1) := by decide +kernel
theorem dX8_exchange_0 : decode cX8_exchange 0 = .ok (.aload_n 0, 1) := by decide +kernel
theorem dX8_exchange_1 : decode cX8_exchange 1 = .ok (.aload_n 0, 1) := by decide +kernel
theorem dX8_exchange_2 : decode cX8_exchange 2 = .ok (.getfield 13, 3) := by decide +kernel
theorem dX8_exchange_5 : decode cX8_exchange 5 = .ok (.iload_n 1, 1) := by decide +kernel
theorem dX8_exchange_6 : decode cX8_exchange 6 = .ok (.invokestatic 144, 3) := by decide +kernel
theorem dX8_exchange_9 : decode cX8_exchange 9 = .ok (.ifCond .eq 18, 3) := by decide +kernel
theorem dX8_exchange_12 : decode cX8_exchange 12 = .ok (.aload_n 0, 1) := by decide +kernel
theorem dX8_exchange_13 : decode cX8_exchange 13 = .ok (.getfield 13, 3) := by decide +kernel
theorem dX8_exchange_16 : decode cX8_exchange 16 = .ok (.iload_n 2, 1) := by decide +kernel
theorem dX8_exchange_17 : decode cX8_exchange 17 = .ok (.invokestatic 144, 3) := by decide +kernel
theorem dX8_exchange_20 : decode cX8_exchange 20 = .ok (.ifCond .eq 7, 3) := by decide +kernel
theorem dX8_exchange_23 : decode cX8_exchange 23 = .ok (.iconst 0, 1) := by decide +kernel
theorem dX8_exchange_24 : decode cX8_exchange 24 = .ok (.goto 4, 3) := by decide +kernel
theorem dX8_exchange_27 : decode cX8_exchange 27 = .ok (.iconst 1, 1) := by decide +kernel
theorem dX8_exchange_28 : decode cX8_exchange 28 = .ok (.invokevirtual 115, 3) := by decide +kernel
theorem dX8_exchange_31 : decode cX8_exchange 31 = .ok (.ifCond .eq 5, 3) := by decide +kernel
theorem dX8_exchange_34 : decode cX8_exchange 34 = .ok (.iconst 0, 1) := by decide +kernel
theorem dX8_exchange_35 : decode cX8_exchange 35 = .ok (.ireturn, 1) := by decide +kernel
theorem dX8_exchange_36 : decode cX8_exchange 36 = .ok (.aload_n 0, 1) := by decide +kernel
theorem dX8_exchange_37 : decode cX8_exchange 37 = .ok (.invokevirtual 193, 3) := by decide +kernel
theorem dX8_exchange_40 : decode cX8_exchange 40 = .ok (.aload_n 0, 1) := by decide +kernel
theorem dX8_exchange_41 : decode cX8_exchange 41 = .ok (.getfield 13, 3) := by decide +kernel
theorem dX8_exchange_44 : decode cX8_exchange 44 = .ok (.iload_n 1, 1) := by decide +kernel
theorem dX8_exchange_45 : decode cX8_exchange 45 = .ok (.iload_n 2, 1) := by decide +kernel
theorem dX8_exchange_46 : decode cX8_exchange 46 = .ok (.invokestatic 98, 3) := by decide +kernel
theorem dX8_exchange_49 : decode cX8_exchange 49 = .ok (.ireturn, 1) := by decide +kernel
theorem dX8_breakAt_0 : decode cX8_breakAt 0 = .ok (.aload_n 0, 1) := by decide +kernel
theorem dX8_breakAt_1 : decode cX8_breakAt 1 = .ok (.aload_n 0, 1) := by decide +kernel
theorem dX8_breakAt_2 : decode cX8_breakAt 2 = .ok (.getfield 13, 3) := by decide +kernel
theorem dX8_breakAt_5 : decode cX8_breakAt 5 = .ok (.iload_n 1, 1) := by decide +kernel
theorem dX8_breakAt_6 : decode cX8_breakAt 6 = .ok (.invokestatic 144, 3) := by decide +kernel
theorem dX8_breakAt_9 : decode cX8_breakAt 9 = .ok (.ifCond .eq 7, 3) := by decide +kernel
theorem dX8_breakAt_12 : decode cX8_breakAt 12 = .ok (.iconst 0, 1) := by decide +kernel
theorem dX8_breakAt_13 : decode cX8_breakAt 13 = .ok (.goto 4, 3) := by decide +kernel
theorem dX8_breakAt_16 : decode cX8_breakAt 16 = .ok (.iconst 1, 1) := by decide +kernel
theorem dX8_breakAt_17 : decode cX8_breakAt 17 = .ok (.invokevirtual 115, 3) := by decide +kernel
theorem dX8_breakAt_20 : decode cX8_breakAt 20 = .ok (.ifCond .eq 5, 3) := by decide +kernel
theorem dX8_breakAt_23 : decode cX8_breakAt 23 = .ok (.iconst 0, 1) := by decide +kernel
theorem dX8_breakAt_24 : decode cX8_breakAt 24 = .ok (.ireturn, 1) := by decide +kernel
theorem dX8_breakAt_25 : decode cX8_breakAt 25 = .ok (.aload_n 0, 1) := by decide +kernel
theorem dX8_breakAt_26 : decode cX8_breakAt 26 = .ok (.invokevirtual 193, 3) := by decide +kernel
theorem dX8_breakAt_29 : decode cX8_breakAt 29 = .ok (.aload_n 0, 1) := by decide +kernel
theorem dX8_breakAt_30 : decode cX8_breakAt 30 = .ok (.getfield 13, 3) := by decide +kernel
theorem dX8_breakAt_33 : decode cX8_breakAt 33 = .ok (.iload_n 1, 1) := by decide +kernel
theorem dX8_breakAt_34 : decode cX8_breakAt 34 = .ok (.invokestatic 147, 3) := by decide +kernel
theorem dX8_breakAt_37 : decode cX8_breakAt 37 = .ok (.ireturn, 1) := by decide +kernel
theorem dX8_turnRound_0 : decode cX8_turnRound 0 = .ok (.aload_n 0, 1) := by decide +kernel
theorem dX8_turnRound_1 : decode cX8_turnRound 1 = .ok (.iconst 0, 1) := by decide +kernel
theorem dX8_turnRound_2 : decode cX8_turnRound 2 = .ok (.putfield 39, 3) := by decide +kernel
theorem dX8_turnRound_5 : decode cX8_turnRound 5 = .ok (.aload_n 0, 1) := by decide +kernel
theorem dX8_turnRound_6 : decode cX8_turnRound 6 = .ok (.invokevirtual 193, 3) := by decide +kernel
theorem dX8_turnRound_9 : decode cX8_turnRound 9 = .ok (.aload_n 0, 1) := by decide +kernel
theorem dX8_turnRound_10 : decode cX8_turnRound 10 = .ok (.getfield 13, 3) := by decide +kernel
theorem dX8_turnRound_13 : decode cX8_turnRound 13 = .ok (.invokestatic 166, 3) := by decide +kernel
theorem dX8_turnRound_16 : decode cX8_turnRound 16 = .ok (.ireturn, 1) := by decide +kernel
theorem dX8_cut_0 : decode cX8_cut 0 = .ok (.aload_n 0, 1) := by decide +kernel
theorem dX8_cut_1 : decode cX8_cut 1 = .ok (.aload_n 0, 1) := by decide +kernel
theorem dX8_cut_2 : decode cX8_cut 2 = .ok (.getfield 13, 3) := by decide +kernel
theorem dX8_cut_5 : decode cX8_cut 5 = .ok (.iload_n 1, 1) := by decide +kernel
theorem dX8_cut_6 : decode cX8_cut 6 = .ok (.invokestatic 150, 3) := by decide +kernel
theorem dX8_cut_9 : decode cX8_cut 9 = .ok (.ifCond .eq 7, 3) := by decide +kernel
theorem dX8_cut_12 : decode cX8_cut 12 = .ok (.iconst 0, 1) := by decide +kernel
theorem dX8_cut_13 : decode cX8_cut 13 = .ok (.goto 4, 3) := by decide +kernel
theorem dX8_cut_16 : decode cX8_cut 16 = .ok (.iconst 1, 1) := by decide +kernel
theorem dX8_cut_17 : decode cX8_cut 17 = .ok (.invokevirtual 115, 3) := by decide +kernel
theorem dX8_cut_20 : decode cX8_cut 20 = .ok (.ifCond .eq 5, 3) := by decide +kernel
theorem dX8_cut_23 : decode cX8_cut 23 = .ok (.iconst 0, 1) := by decide +kernel
theorem dX8_cut_24 : decode cX8_cut 24 = .ok (.ireturn, 1) := by decide +kernel
theorem dX8_cut_25 : decode cX8_cut 25 = .ok (.aload_n 0, 1) := by decide +kernel
theorem dX8_cut_26 : decode cX8_cut 26 = .ok (.invokevirtual 193, 3) := by decide +kernel
theorem dX8_cut_29 : decode cX8_cut 29 = .ok (.aload_n 0, 1) := by decide +kernel
theorem dX8_cut_30 : decode cX8_cut 30 = .ok (.getfield 13, 3) := by decide +kernel
theorem dX8_cut_33 : decode cX8_cut 33 = .ok (.iload_n 1, 1) := by decide +kernel
theorem dX8_cut_34 : decode cX8_cut 34 = .ok (.iload_n 2, 1) := by decide +kernel
theorem dX8_cut_35 : decode cX8_cut 35 = .ok (.invokestatic 153, 3) := by decide +kernel
theorem dX8_cut_38 : decode cX8_cut 38 = .ok (.ireturn, 1) := by decide +kernel
theorem dX8_give_0 : decode cX8_give 0 = .ok (.aload_n 0, 1) := by decide +kernel
theorem dX8_give_1 : decode cX8_give 1 = .ok (.aload_n 0, 1) := by decide +kernel
theorem dX8_give_2 : decode cX8_give 2 = .ok (.getfield 13, 3) := by decide +kernel
theorem dX8_give_5 : decode cX8_give 5 = .ok (.iload_n 1, 1) := by decide +kernel
theorem dX8_give_6 : decode cX8_give 6 = .ok (.invokestatic 157, 3) := by decide +kernel
theorem dX8_give_9 : decode cX8_give 9 = .ok (.ifCond .ne 7, 3) := by decide +kernel
theorem dX8_give_12 : decode cX8_give 12 = .ok (.iconst 1, 1) := by decide +kernel
theorem dX8_give_13 : decode cX8_give 13 = .ok (.goto 15, 3) := by decide +kernel
theorem dX8_give_16 : decode cX8_give 16 = .ok (.iload_n 2, 1) := by decide +kernel
theorem dX8_give_17 : decode cX8_give 17 = .ok (.invokestatic 196, 3) := by decide +kernel
theorem dX8_give_20 : decode cX8_give 20 = .ok (.ifCond .eq 7, 3) := by decide +kernel
theorem dX8_give_23 : decode cX8_give 23 = .ok (.iconst 0, 1) := by decide +kernel
theorem dX8_give_24 : decode cX8_give 24 = .ok (.goto 4, 3) := by decide +kernel
theorem dX8_give_27 : decode cX8_give 27 = .ok (.iconst 2, 1) := by decide +kernel
theorem dX8_give_28 : decode cX8_give 28 = .ok (.invokevirtual 115, 3) := by decide +kernel
theorem dX8_give_31 : decode cX8_give 31 = .ok (.ifCond .eq 5, 3) := by decide +kernel
theorem dX8_give_34 : decode cX8_give 34 = .ok (.iconst 0, 1) := by decide +kernel
theorem dX8_give_35 : decode cX8_give 35 = .ok (.ireturn, 1) := by decide +kernel
theorem dX8_give_36 : decode cX8_give 36 = .ok (.aload_n 0, 1) := by decide +kernel
theorem dX8_give_37 : decode cX8_give 37 = .ok (.invokevirtual 193, 3) := by decide +kernel
theorem dX8_give_40 : decode cX8_give 40 = .ok (.aload_n 0, 1) := by decide +kernel
theorem dX8_give_41 : decode cX8_give 41 = .ok (.getfield 13, 3) := by decide +kernel
theorem dX8_give_44 : decode cX8_give 44 = .ok (.iload_n 1, 1) := by decide +kernel
theorem dX8_give_45 : decode cX8_give 45 = .ok (.iload_n 2, 1) := by decide +kernel
theorem dX8_give_46 : decode cX8_give 46 = .ok (.invokestatic 107, 3) := by decide +kernel
theorem dX8_give_49 : decode cX8_give 49 = .ok (.ireturn, 1) := by decide +kernel
theorem dX8_take_0 : decode cX8_take 0 = .ok (.aload_n 0, 1) := by decide +kernel
theorem dX8_take_1 : decode cX8_take 1 = .ok (.aload_n 0, 1) := by decide +kernel
theorem dX8_take_2 : decode cX8_take 2 = .ok (.getfield 13, 3) := by decide +kernel
theorem dX8_take_5 : decode cX8_take 5 = .ok (.iload_n 1, 1) := by decide +kernel
theorem dX8_take_6 : decode cX8_take 6 = .ok (.invokestatic 157, 3) := by decide +kernel
theorem dX8_take_9 : decode cX8_take 9 = .ok (.ifCond .eq 7, 3) := by decide +kernel
theorem dX8_take_12 : decode cX8_take 12 = .ok (.iconst 0, 1) := by decide +kernel
theorem dX8_take_13 : decode cX8_take 13 = .ok (.goto 4, 3) := by decide +kernel
theorem dX8_take_16 : decode cX8_take 16 = .ok (.iconst 1, 1) := by decide +kernel
theorem dX8_take_17 : decode cX8_take 17 = .ok (.invokevirtual 115, 3) := by decide +kernel
theorem dX8_take_20 : decode cX8_take 20 = .ok (.ifCond .eq 5, 3) := by decide +kernel
theorem dX8_take_23 : decode cX8_take 23 = .ok (.iconst 0, 1) := by decide +kernel
theorem dX8_take_24 : decode cX8_take 24 = .ok (.ireturn, 1) := by decide +kernel
theorem dX8_take_25 : decode cX8_take 25 = .ok (.aload_n 0, 1) := by decide +kernel
theorem dX8_take_26 : decode cX8_take 26 = .ok (.invokevirtual 193, 3) := by decide +kernel
theorem dX8_take_29 : decode cX8_take 29 = .ok (.aload_n 0, 1) := by decide +kernel
theorem dX8_take_30 : decode cX8_take 30 = .ok (.getfield 13, 3) := by decide +kernel
theorem dX8_take_33 : decode cX8_take 33 = .ok (.iload_n 1, 1) := by decide +kernel
theorem dX8_take_34 : decode cX8_take 34 = .ok (.invokestatic 160, 3) := by decide +kernel
theorem dX8_take_37 : decode cX8_take 37 = .ok (.ireturn, 1) := by decide +kernel
theorem dX8_deal_0 : decode cX8_deal 0 = .ok (.aload_n 0, 1) := by decide +kernel
theorem dX8_deal_1 : decode cX8_deal 1 = .ok (.iload_n 1, 1) := by decide +kernel
theorem dX8_deal_2 : decode cX8_deal 2 = .ok (.i2l, 1) := by decide +kernel
theorem dX8_deal_3 : decode cX8_deal 3 = .ok (.lconst 0, 1) := by decide +kernel
theorem dX8_deal_4 : decode cX8_deal 4 = .ok (.lconst 1, 1) := by decide +kernel
theorem dX8_deal_5 : decode cX8_deal 5 = .ok (.invokestatic 46, 3) := by decide +kernel
theorem dX8_deal_8 : decode cX8_deal 8 = .ok (.ifCond .eq 7, 3) := by decide +kernel
theorem dX8_deal_11 : decode cX8_deal 11 = .ok (.iconst 0, 1) := by decide +kernel
theorem dX8_deal_12 : decode cX8_deal 12 = .ok (.goto 4, 3) := by decide +kernel
theorem dX8_deal_15 : decode cX8_deal 15 = .ok (.iconst 1, 1) := by decide +kernel
theorem dX8_deal_16 : decode cX8_deal 16 = .ok (.invokevirtual 115, 3) := by decide +kernel
theorem dX8_deal_19 : decode cX8_deal 19 = .ok (.ifCond .eq 5, 3) := by decide +kernel
theorem dX8_deal_22 : decode cX8_deal 22 = .ok (.iconst 0, 1) := by decide +kernel
theorem dX8_deal_23 : decode cX8_deal 23 = .ok (.ireturn, 1) := by decide +kernel
theorem dX8_deal_24 : decode cX8_deal 24 = .ok (.aload_n 0, 1) := by decide +kernel
theorem dX8_deal_25 : decode cX8_deal 25 = .ok (.invokevirtual 193, 3) := by decide +kernel
theorem dX8_deal_28 : decode cX8_deal 28 = .ok (.aload_n 0, 1) := by decide +kernel
theorem dX8_deal_29 : decode cX8_deal 29 = .ok (.getfield 13, 3) := by decide +kernel
theorem dX8_deal_32 : decode cX8_deal 32 = .ok (.iload_n 1, 1) := by decide +kernel
theorem dX8_deal_33 : decode cX8_deal 33 = .ok (.invokestatic 163, 3) := by decide +kernel
theorem dX8_deal_36 : decode cX8_deal 36 = .ok (.ireturn, 1) := by decide +kernel
theorem dX8_divide_0 : decode cX8_divide 0 = .ok (.aload_n 0, 1) := by decide +kernel
theorem dX8_divide_1 : decode cX8_divide 1 = .ok (.aload_n 0, 1) := by decide +kernel
theorem dX8_divide_2 : decode cX8_divide 2 = .ok (.getfield 13, 3) := by decide +kernel
theorem dX8_divide_5 : decode cX8_divide 5 = .ok (.invokevirtual 199, 3) := by decide +kernel
theorem dX8_divide_8 : decode cX8_divide 8 = .ok (.istore_n 1, 1) := by decide +kernel
theorem dX8_divide_9 : decode cX8_divide 9 = .ok (.aload_n 0, 1) := by decide +kernel
theorem dX8_divide_10 : decode cX8_divide 10 = .ok (.iload_n 1, 1) := by decide +kernel
theorem dX8_divide_11 : decode cX8_divide 11 = .ok (.iconst (-1), 1) := by decide +kernel
theorem dX8_divide_12 : decode cX8_divide 12 = .ok (.if_icmp .ne 7, 3) := by decide +kernel
theorem dX8_divide_15 : decode cX8_divide 15 = .ok (.iconst 1, 1) := by decide +kernel
theorem dX8_divide_16 : decode cX8_divide 16 = .ok (.goto 4, 3) := by decide +kernel
theorem dX8_divide_19 : decode cX8_divide 19 = .ok (.iconst 0, 1) := by decide +kernel
theorem dX8_divide_20 : decode cX8_divide 20 = .ok (.invokevirtual 115, 3) := by decide +kernel
theorem dX8_divide_23 : decode cX8_divide 23 = .ok (.ifCond .eq 5, 3) := by decide +kernel
theorem dX8_divide_26 : decode cX8_divide 26 = .ok (.iconst 0, 1) := by decide +kernel
theorem dX8_divide_27 : decode cX8_divide 27 = .ok (.ireturn, 1) := by decide +kernel
theorem dX8_divide_28 : decode cX8_divide 28 = .ok (.aload_n 0, 1) := by decide +kernel
theorem dX8_divide_29 : decode cX8_divide 29 = .ok (.invokevirtual 193, 3) := by decide +kernel
theorem dX8_divide_32 : decode cX8_divide 32 = .ok (.aload_n 0, 1) := by decide +kernel
theorem dX8_divide_33 : decode cX8_divide 33 = .ok (.getfield 13, 3) := by decide +kernel
theorem dX8_divide_36 : decode cX8_divide 36 = .ok (.iconst 5, 1) := by decide +kernel
theorem dX8_divide_37 : decode cX8_divide 37 = .ok (.iconst 0, 1) := by decide +kernel
theorem dX8_divide_38 : decode cX8_divide 38 = .ok (.iastore, 1) := by decide +kernel
theorem dX8_divide_39 : decode cX8_divide 39 = .ok (.iconst 0, 1) := by decide +kernel
theorem dX8_divide_40 : decode cX8_divide 40 = .ok (.istore_n 2, 1) := by decide +kernel
theorem dX8_divide_41 : decode cX8_divide 41 = .ok (.iload_n 2, 1) := by decide +kernel
theorem dX8_divide_42 : decode cX8_divide 42 = .ok (.iload_n 1, 1) := by decide +kernel
theorem dX8_divide_43 : decode cX8_divide 43 = .ok (.if_icmp .ge 26, 3) := by decide +kernel
theorem dX8_divide_46 : decode cX8_divide 46 = .ok (.aload_n 0, 1) := by decide +kernel
theorem dX8_divide_47 : decode cX8_divide 47 = .ok (.getfield 13, 3) := by decide +kernel
theorem dX8_divide_50 : decode cX8_divide 50 = .ok (.iconst 5, 1) := by decide +kernel
theorem dX8_divide_51 : decode cX8_divide 51 = .ok (.dup2, 1) := by decide +kernel
theorem dX8_divide_52 : decode cX8_divide 52 = .ok (.iaload, 1) := by decide +kernel
theorem dX8_divide_53 : decode cX8_divide 53 = .ok (.iconst 1, 1) := by decide +kernel
theorem dX8_divide_54 : decode cX8_divide 54 = .ok (.aload_n 0, 1) := by decide +kernel
theorem dX8_divide_55 : decode cX8_divide 55 = .ok (.getfield 32, 3) := by decide +kernel
theorem dX8_divide_58 : decode cX8_divide 58 = .ok (.iload_n 2, 1) := by decide +kernel
theorem dX8_divide_59 : decode cX8_divide 59 = .ok (.iaload, 1) := by decide +kernel
theorem dX8_divide_60 : decode cX8_divide 60 = .ok (.ishl, 1) := by decide +kernel
theorem dX8_divide_61 : decode cX8_divide 61 = .ok (.ior, 1) := by decide +kernel
theorem dX8_divide_62 : decode cX8_divide 62 = .ok (.iastore, 1) := by decide +kernel
theorem dX8_divide_63 : decode cX8_divide 63 = .ok (.iinc 2 1, 3) := by decide +kernel
theorem dX8_divide_66 : decode cX8_divide 66 = .ok (.goto (-25), 3) := by decide +kernel
theorem dX8_divide_69 : decode cX8_divide 69 = .ok (.aload_n 0, 1) := by decide +kernel
theorem dX8_divide_70 : decode cX8_divide 70 = .ok (.getfield 13, 3) := by decide +kernel
theorem dX8_divide_73 : decode cX8_divide 73 = .ok (.iconst 0, 1) := by decide +kernel
theorem dX8_divide_74 : decode cX8_divide 74 = .ok (.invokestatic 163, 3) := by decide +kernel
theorem dX8_divide_77 : decode cX8_divide 77 = .ok (.pop, 1) := by decide +kernel
theorem dX8_divide_78 : decode cX8_divide 78 = .ok (.iload_n 1, 1) := by decide +kernel
theorem dX8_divide_79 : decode cX8_divide 79 = .ok (.ireturn, 1) := by decide +kernel
theorem dX8_set_0 : decode cX8_set 0 = .ok (.aload_n 0, 1) := by decide +kernel
theorem dX8_set_1 : decode cX8_set 1 = .ok (.iload_n 1, 1) := by decide +kernel
theorem dX8_set_2 : decode cX8_set 2 = .ok (.i2l, 1) := by decide +kernel
theorem dX8_set_3 : decode cX8_set 3 = .ok (.lconst 0, 1) := by decide +kernel
theorem dX8_set_4 : decode cX8_set 4 = .ok (.lconst 1, 1) := by decide +kernel
theorem dX8_set_5 : decode cX8_set 5 = .ok (.invokestatic 46, 3) := by decide +kernel
theorem dX8_set_8 : decode cX8_set 8 = .ok (.ifCond .eq 7, 3) := by decide +kernel
theorem dX8_set_11 : decode cX8_set 11 = .ok (.iconst 0, 1) := by decide +kernel
theorem dX8_set_12 : decode cX8_set 12 = .ok (.goto 4, 3) := by decide +kernel
theorem dX8_set_15 : decode cX8_set 15 = .ok (.iconst 1, 1) := by decide +kernel
theorem dX8_set_16 : decode cX8_set 16 = .ok (.invokevirtual 115, 3) := by decide +kernel
theorem dX8_set_19 : decode cX8_set 19 = .ok (.ifCond .eq 5, 3) := by decide +kernel
theorem dX8_set_22 : decode cX8_set 22 = .ok (.iconst 0, 1) := by decide +kernel
theorem dX8_set_23 : decode cX8_set 23 = .ok (.ireturn, 1) := by decide +kernel
theorem dX8_set_24 : decode cX8_set 24 = .ok (.aload_n 0, 1) := by decide +kernel
theorem dX8_set_25 : decode cX8_set 25 = .ok (.invokevirtual 193, 3) := by decide +kernel
theorem dX8_set_28 : decode cX8_set 28 = .ok (.aload_n 0, 1) := by decide +kernel
theorem dX8_set_29 : decode cX8_set 29 = .ok (.getfield 13, 3) := by decide +kernel
theorem dX8_set_32 : decode cX8_set 32 = .ok (.iconst 4, 1) := by decide +kernel
theorem dX8_set_33 : decode cX8_set 33 = .ok (.iaload, 1) := by decide +kernel
theorem dX8_set_34 : decode cX8_set 34 = .ok (.istore_n 2, 1) := by decide +kernel
theorem dX8_set_35 : decode cX8_set 35 = .ok (.aload_n 0, 1) := by decide +kernel
theorem dX8_set_36 : decode cX8_set 36 = .ok (.getfield 13, 3) := by decide +kernel
theorem dX8_set_39 : decode cX8_set 39 = .ok (.iconst 4, 1) := by decide +kernel
theorem dX8_set_40 : decode cX8_set 40 = .ok (.iload_n 1, 1) := by decide +kernel
theorem dX8_set_41 : decode cX8_set 41 = .ok (.iastore, 1) := by decide +kernel
theorem dX8_set_42 : decode cX8_set 42 = .ok (.iload_n 2, 1) := by decide +kernel
theorem dX8_set_43 : decode cX8_set 43 = .ok (.ireturn, 1) := by decide +kernel
theorem dX8_undo_0 : decode cX8_undo 0 = .ok (.aload_n 0, 1) := by decide +kernel
theorem dX8_undo_1 : decode cX8_undo 1 = .ok (.aload_n 0, 1) := by decide +kernel
theorem dX8_undo_2 : decode cX8_undo 2 = .ok (.getfield 179, 3) := by decide +kernel
theorem dX8_undo_5 : decode cX8_undo 5 = .ok (.ifCond .ne 7, 3) := by decide +kernel
theorem dX8_undo_8 : decode cX8_undo 8 = .ok (.iconst 1, 1) := by decide +kernel
theorem dX8_undo_9 : decode cX8_undo 9 = .ok (.goto 4, 3) := by decide +kernel
theorem dX8_undo_12 : decode cX8_undo 12 = .ok (.iconst 0, 1) := by decide +kernel
theorem dX8_undo_13 : decode cX8_undo 13 = .ok (.invokevirtual 115, 3) := by decide +kernel
theorem dX8_undo_16 : decode cX8_undo 16 = .ok (.ifCond .eq 5, 3) := by decide +kernel
theorem dX8_undo_19 : decode cX8_undo 19 = .ok (.iconst 0, 1) := by decide +kernel
theorem dX8_undo_20 : decode cX8_undo 20 = .ok (.ireturn, 1) := by decide +kernel
theorem dX8_undo_21 : decode cX8_undo 21 = .ok (.aload_n 0, 1) := by decide +kernel
theorem dX8_undo_22 : decode cX8_undo 22 = .ok (.dup, 1) := by decide +kernel
theorem dX8_undo_23 : decode cX8_undo 23 = .ok (.getfield 179, 3) := by decide +kernel
theorem dX8_undo_26 : decode cX8_undo 26 = .ok (.iconst 1, 1) := by decide +kernel
theorem dX8_undo_27 : decode cX8_undo 27 = .ok (.isub, 1) := by decide +kernel
theorem dX8_undo_28 : decode cX8_undo 28 = .ok (.putfield 179, 3) := by decide +kernel
theorem dX8_undo_31 : decode cX8_undo 31 = .ok (.aload_n 0, 1) := by decide +kernel
theorem dX8_undo_32 : decode cX8_undo 32 = .ok (.getfield 19, 3) := by decide +kernel
theorem dX8_undo_35 : decode cX8_undo 35 = .ok (.bipush 54, 2) := by decide +kernel
theorem dX8_undo_37 : decode cX8_undo 37 = .ok (.aload_n 0, 1) := by decide +kernel
theorem dX8_undo_38 : decode cX8_undo 38 = .ok (.getfield 179, 3) := by decide +kernel
theorem dX8_undo_41 : decode cX8_undo 41 = .ok (.imul, 1) := by decide +kernel
theorem dX8_undo_42 : decode cX8_undo 42 = .ok (.aload_n 0, 1) := by decide +kernel
theorem dX8_undo_43 : decode cX8_undo 43 = .ok (.getfield 13, 3) := by decide +kernel
theorem dX8_undo_46 : decode cX8_undo 46 = .ok (.iconst 0, 1) := by decide +kernel
theorem dX8_undo_47 : decode cX8_undo 47 = .ok (.invokestatic 175, 3) := by decide +kernel
theorem dX8_undo_50 : decode cX8_undo 50 = .ok (.aload_n 0, 1) := by decide +kernel
theorem dX8_undo_51 : decode cX8_undo 51 = .ok (.getfield 179, 3) := by decide +kernel
theorem dX8_undo_54 : decode cX8_undo 54 = .ok (.ireturn, 1) := by decide +kernel
theorem dX8_fewest_0 : decode cX8_fewest 0 = .ok (.aload_n 0, 1) := by decide +kernel
theorem dX8_fewest_1 : decode cX8_fewest 1 = .ok (.iload_n 1, 1) := by decide +kernel
theorem dX8_fewest_2 : decode cX8_fewest 2 = .ok (.i2l, 1) := by decide +kernel
theorem dX8_fewest_3 : decode cX8_fewest 3 = .ok (.lconst 0, 1) := by decide +kernel
theorem dX8_fewest_4 : decode cX8_fewest 4 = .ok (.lconst 1, 1) := by decide +kernel
theorem dX8_fewest_5 : decode cX8_fewest 5 = .ok (.invokestatic 46, 3) := by decide +kernel
theorem dX8_fewest_8 : decode cX8_fewest 8 = .ok (.ifCond .eq 7, 3) := by decide +kernel
theorem dX8_fewest_11 : decode cX8_fewest 11 = .ok (.iconst 0, 1) := by decide +kernel
theorem dX8_fewest_12 : decode cX8_fewest 12 = .ok (.goto 4, 3) := by decide +kernel
theorem dX8_fewest_15 : decode cX8_fewest 15 = .ok (.iconst 1, 1) := by decide +kernel
theorem dX8_fewest_16 : decode cX8_fewest 16 = .ok (.invokevirtual 115, 3) := by decide +kernel
theorem dX8_fewest_19 : decode cX8_fewest 19 = .ok (.ifCond .eq 5, 3) := by decide +kernel
theorem dX8_fewest_22 : decode cX8_fewest 22 = .ok (.iconst 0, 1) := by decide +kernel
theorem dX8_fewest_23 : decode cX8_fewest 23 = .ok (.ireturn, 1) := by decide +kernel
theorem dX8_fewest_24 : decode cX8_fewest 24 = .ok (.aload_n 0, 1) := by decide +kernel
theorem dX8_fewest_25 : decode cX8_fewest 25 = .ok (.aload_n 0, 1) := by decide +kernel
theorem dX8_fewest_26 : decode cX8_fewest 26 = .ok (.getfield 13, 3) := by decide +kernel
theorem dX8_fewest_29 : decode cX8_fewest 29 = .ok (.invokevirtual 199, 3) := by decide +kernel
theorem dX8_fewest_32 : decode cX8_fewest 32 = .ok (.ireturn, 1) := by decide +kernel
theorem dX8_divided_0 : decode cX8_divided 0 = .ok (.aload_n 0, 1) := by decide +kernel
theorem dX8_divided_1 : decode cX8_divided 1 = .ok (.iload_n 1, 1) := by decide +kernel
theorem dX8_divided_2 : decode cX8_divided 2 = .ok (.ifCond .lt 7, 3) := by decide +kernel
theorem dX8_divided_5 : decode cX8_divided 5 = .ok (.iconst 0, 1) := by decide +kernel
theorem dX8_divided_6 : decode cX8_divided 6 = .ok (.goto 4, 3) := by decide +kernel
theorem dX8_divided_9 : decode cX8_divided 9 = .ok (.iconst 1, 1) := by decide +kernel
theorem dX8_divided_10 : decode cX8_divided 10 = .ok (.invokevirtual 115, 3) := by decide +kernel
theorem dX8_divided_13 : decode cX8_divided 13 = .ok (.ifCond .eq 5, 3) := by decide +kernel
theorem dX8_divided_16 : decode cX8_divided 16 = .ok (.iconst 0, 1) := by decide +kernel
theorem dX8_divided_17 : decode cX8_divided 17 = .ok (.ireturn, 1) := by decide +kernel
theorem dX8_divided_18 : decode cX8_divided 18 = .ok (.aload_n 0, 1) := by decide +kernel
theorem dX8_divided_19 : decode cX8_divided 19 = .ok (.aload_n 0, 1) := by decide +kernel
theorem dX8_divided_20 : decode cX8_divided 20 = .ok (.getfield 13, 3) := by decide +kernel
theorem dX8_divided_23 : decode cX8_divided 23 = .ok (.invokevirtual 199, 3) := by decide +kernel
theorem dX8_divided_26 : decode cX8_divided 26 = .ok (.istore_n 2, 1) := by decide +kernel
theorem dX8_divided_27 : decode cX8_divided 27 = .ok (.iload_n 1, 1) := by decide +kernel
theorem dX8_divided_28 : decode cX8_divided 28 = .ok (.iload_n 2, 1) := by decide +kernel
theorem dX8_divided_29 : decode cX8_divided 29 = .ok (.if_icmp .ge 12, 3) := by decide +kernel
theorem dX8_divided_32 : decode cX8_divided 32 = .ok (.aload_n 0, 1) := by decide +kernel
theorem dX8_divided_33 : decode cX8_divided 33 = .ok (.getfield 32, 3) := by decide +kernel
theorem dX8_divided_36 : decode cX8_divided 36 = .ok (.iload_n 1, 1) := by decide +kernel
theorem dX8_divided_37 : decode cX8_divided 37 = .ok (.iaload, 1) := by decide +kernel
theorem dX8_divided_38 : decode cX8_divided 38 = .ok (.goto 4, 3) := by decide +kernel
theorem dX8_divided_41 : decode cX8_divided 41 = .ok (.iconst (-1), 1) := by decide +kernel
theorem dX8_divided_42 : decode cX8_divided 42 = .ok (.ireturn, 1) := by decide +kernel
theorem dX8_leastGap_0 : decode cX8_leastGap 0 = .ok (.aload_n 0, 1) := by decide +kernel
theorem dX8_leastGap_1 : decode cX8_leastGap 1 = .ok (.iload_n 1, 1) := by decide +kernel
theorem dX8_leastGap_2 : decode cX8_leastGap 2 = .ok (.i2l, 1) := by decide +kernel
theorem dX8_leastGap_3 : decode cX8_leastGap 3 = .ok (.lconst 0, 1) := by decide +kernel
theorem dX8_leastGap_4 : decode cX8_leastGap 4 = .ok (.ldc2_w 202, 3) := by decide +kernel
theorem dX8_leastGap_7 : decode cX8_leastGap 7 = .ok (.invokestatic 46, 3) := by decide +kernel
theorem dX8_leastGap_10 : decode cX8_leastGap 10 = .ok (.ifCond .eq 7, 3) := by decide +kernel
theorem dX8_leastGap_13 : decode cX8_leastGap 13 = .ok (.iconst 0, 1) := by decide +kernel
theorem dX8_leastGap_14 : decode cX8_leastGap 14 = .ok (.goto 4, 3) := by decide +kernel
theorem dX8_leastGap_17 : decode cX8_leastGap 17 = .ok (.iconst 1, 1) := by decide +kernel
theorem dX8_leastGap_18 : decode cX8_leastGap 18 = .ok (.invokevirtual 115, 3) := by decide +kernel
theorem dX8_leastGap_21 : decode cX8_leastGap 21 = .ok (.ifCond .eq 5, 3) := by decide +kernel
theorem dX8_leastGap_24 : decode cX8_leastGap 24 = .ok (.iconst 0, 1) := by decide +kernel
theorem dX8_leastGap_25 : decode cX8_leastGap 25 = .ok (.ireturn, 1) := by decide +kernel
theorem dX8_leastGap_26 : decode cX8_leastGap 26 = .ok (.aload_n 0, 1) := by decide +kernel
theorem dX8_leastGap_27 : decode cX8_leastGap 27 = .ok (.aload_n 0, 1) := by decide +kernel
theorem dX8_leastGap_28 : decode cX8_leastGap 28 = .ok (.getfield 13, 3) := by decide +kernel
theorem dX8_leastGap_31 : decode cX8_leastGap 31 = .ok (.invokevirtual 89, 3) := by decide +kernel
theorem dX8_leastGap_34 : decode cX8_leastGap 34 = .ok (.aload_n 0, 1) := by decide +kernel
theorem dX8_leastGap_35 : decode cX8_leastGap 35 = .ok (.aload_n 0, 1) := by decide +kernel
theorem dX8_leastGap_36 : decode cX8_leastGap 36 = .ok (.getfield 13, 3) := by decide +kernel
theorem dX8_leastGap_39 : decode cX8_leastGap 39 = .ok (.iconst 0, 1) := by decide +kernel
theorem dX8_leastGap_40 : decode cX8_leastGap 40 = .ok (.iaload, 1) := by decide +kernel
theorem dX8_leastGap_41 : decode cX8_leastGap 41 = .ok (.iconst 0, 1) := by decide +kernel
theorem dX8_leastGap_42 : decode cX8_leastGap 42 = .ok (.invokevirtual 92, 3) := by decide +kernel
theorem dX8_leastGap_45 : decode cX8_leastGap 45 = .ok (.istore_n 2, 1) := by decide +kernel
theorem dX8_leastGap_46 : decode cX8_leastGap 46 = .ok (.iconst 1, 1) := by decide +kernel
theorem dX8_leastGap_47 : decode cX8_leastGap 47 = .ok (.istore_n 3, 1) := by decide +kernel
theorem dX8_leastGap_48 : decode cX8_leastGap 48 = .ok (.iload_n 3, 1) := by decide +kernel
theorem dX8_leastGap_49 : decode cX8_leastGap 49 = .ok (.iload_n 1, 1) := by decide +kernel
theorem dX8_leastGap_50 : decode cX8_leastGap 50 = .ok (.if_icmp .gt 41, 3) := by decide +kernel
theorem dX8_leastGap_53 : decode cX8_leastGap 53 = .ok (.aload_n 0, 1) := by decide +kernel
theorem dX8_leastGap_54 : decode cX8_leastGap 54 = .ok (.aload_n 0, 1) := by decide +kernel
theorem dX8_leastGap_55 : decode cX8_leastGap 55 = .ok (.getfield 13, 3) := by decide +kernel
theorem dX8_leastGap_58 : decode cX8_leastGap 58 = .ok (.iconst 0, 1) := by decide +kernel
theorem dX8_leastGap_59 : decode cX8_leastGap 59 = .ok (.iaload, 1) := by decide +kernel
theorem dX8_leastGap_60 : decode cX8_leastGap 60 = .ok (.iload_n 3, 1) := by decide +kernel
theorem dX8_leastGap_61 : decode cX8_leastGap 61 = .ok (.invokevirtual 92, 3) := by decide +kernel
theorem dX8_leastGap_64 : decode cX8_leastGap 64 = .ok (.istore 4, 2) := by decide +kernel
theorem dX8_leastGap_66 : decode cX8_leastGap 66 = .ok (.iload 4, 2) := by decide +kernel
theorem dX8_leastGap_68 : decode cX8_leastGap 68 = .ok (.iconst (-1), 1) := by decide +kernel
theorem dX8_leastGap_69 : decode cX8_leastGap 69 = .ok (.if_icmp .eq 14, 3) := by decide +kernel
theorem dX8_leastGap_72 : decode cX8_leastGap 72 = .ok (.iload 4, 2) := by decide +kernel
theorem dX8_leastGap_74 : decode cX8_leastGap 74 = .ok (.iload_n 2, 1) := by decide +kernel
theorem dX8_leastGap_75 : decode cX8_leastGap 75 = .ok (.if_icmp .ge 8, 3) := by decide +kernel
theorem dX8_leastGap_78 : decode cX8_leastGap 78 = .ok (.iload 4, 2) := by decide +kernel
theorem dX8_leastGap_80 : decode cX8_leastGap 80 = .ok (.goto 4, 3) := by decide +kernel
theorem dX8_leastGap_83 : decode cX8_leastGap 83 = .ok (.iload_n 2, 1) := by decide +kernel
theorem dX8_leastGap_84 : decode cX8_leastGap 84 = .ok (.istore_n 2, 1) := by decide +kernel
theorem dX8_leastGap_85 : decode cX8_leastGap 85 = .ok (.iinc 3 1, 3) := by decide +kernel
theorem dX8_leastGap_88 : decode cX8_leastGap 88 = .ok (.goto (-40), 3) := by decide +kernel
theorem dX8_leastGap_91 : decode cX8_leastGap 91 = .ok (.iload_n 2, 1) := by decide +kernel
theorem dX8_leastGap_92 : decode cX8_leastGap 92 = .ok (.ireturn, 1) := by decide +kernel
theorem dX8_bestBreak_0 : decode cX8_bestBreak 0 = .ok (.aload_n 0, 1) := by decide +kernel
theorem dX8_bestBreak_1 : decode cX8_bestBreak 1 = .ok (.iconst 0, 1) := by decide +kernel
theorem dX8_bestBreak_2 : decode cX8_bestBreak 2 = .ok (.putfield 39, 3) := by decide +kernel
theorem dX8_bestBreak_5 : decode cX8_bestBreak 5 = .ok (.iconst (-1), 1) := by decide +kernel
theorem dX8_bestBreak_6 : decode cX8_bestBreak 6 = .ok (.istore_n 1, 1) := by decide +kernel
theorem dX8_bestBreak_7 : decode cX8_bestBreak 7 = .ok (.iconst 0, 1) := by decide +kernel
theorem dX8_bestBreak_8 : decode cX8_bestBreak 8 = .ok (.istore_n 2, 1) := by decide +kernel
theorem dX8_bestBreak_9 : decode cX8_bestBreak 9 = .ok (.iconst 0, 1) := by decide +kernel
theorem dX8_bestBreak_10 : decode cX8_bestBreak 10 = .ok (.istore_n 3, 1) := by decide +kernel
theorem dX8_bestBreak_11 : decode cX8_bestBreak 11 = .ok (.iload_n 3, 1) := by decide +kernel
theorem dX8_bestBreak_12 : decode cX8_bestBreak 12 = .ok (.aload_n 0, 1) := by decide +kernel
theorem dX8_bestBreak_13 : decode cX8_bestBreak 13 = .ok (.getfield 13, 3) := by decide +kernel
theorem dX8_bestBreak_16 : decode cX8_bestBreak 16 = .ok (.iconst 0, 1) := by decide +kernel
theorem dX8_bestBreak_17 : decode cX8_bestBreak 17 = .ok (.iaload, 1) := by decide +kernel
theorem dX8_bestBreak_18 : decode cX8_bestBreak 18 = .ok (.if_icmp .ge 88, 3) := by decide +kernel
theorem dX8_bestBreak_21 : decode cX8_bestBreak 21 = .ok (.aload_n 0, 1) := by decide +kernel
theorem dX8_bestBreak_22 : decode cX8_bestBreak 22 = .ok (.getfield 13, 3) := by decide +kernel
theorem dX8_bestBreak_25 : decode cX8_bestBreak 25 = .ok (.iconst 0, 1) := by decide +kernel
theorem dX8_bestBreak_26 : decode cX8_bestBreak 26 = .ok (.aload_n 0, 1) := by decide +kernel
theorem dX8_bestBreak_27 : decode cX8_bestBreak 27 = .ok (.getfield 16, 3) := by decide +kernel
theorem dX8_bestBreak_30 : decode cX8_bestBreak 30 = .ok (.iconst 0, 1) := by decide +kernel
theorem dX8_bestBreak_31 : decode cX8_bestBreak 31 = .ok (.invokestatic 175, 3) := by decide +kernel
theorem dX8_bestBreak_34 : decode cX8_bestBreak 34 = .ok (.aload_n 0, 1) := by decide +kernel
theorem dX8_bestBreak_35 : decode cX8_bestBreak 35 = .ok (.getfield 16, 3) := by decide +kernel
theorem dX8_bestBreak_38 : decode cX8_bestBreak 38 = .ok (.iload_n 3, 1) := by decide +kernel
theorem dX8_bestBreak_39 : decode cX8_bestBreak 39 = .ok (.invokestatic 147, 3) := by decide +kernel
theorem dX8_bestBreak_42 : decode cX8_bestBreak 42 = .ok (.pop, 1) := by decide +kernel
theorem dX8_bestBreak_43 : decode cX8_bestBreak 43 = .ok (.aload_n 0, 1) := by decide +kernel
theorem dX8_bestBreak_44 : decode cX8_bestBreak 44 = .ok (.aload_n 0, 1) := by decide +kernel
theorem dX8_bestBreak_45 : decode cX8_bestBreak 45 = .ok (.getfield 16, 3) := by decide +kernel
theorem dX8_bestBreak_48 : decode cX8_bestBreak 48 = .ok (.invokevirtual 199, 3) := by decide +kernel
theorem dX8_bestBreak_51 : decode cX8_bestBreak 51 = .ok (.istore 4, 2) := by decide +kernel
theorem dX8_bestBreak_53 : decode cX8_bestBreak 53 = .ok (.iload 4, 2) := by decide +kernel
theorem dX8_bestBreak_55 : decode cX8_bestBreak 55 = .ok (.iconst (-1), 1) := by decide +kernel
theorem dX8_bestBreak_56 : decode cX8_bestBreak 56 = .ok (.if_icmp .eq 18, 3) := by decide +kernel
theorem dX8_bestBreak_59 : decode cX8_bestBreak 59 = .ok (.iload_n 1, 1) := by decide +kernel
theorem dX8_bestBreak_60 : decode cX8_bestBreak 60 = .ok (.iconst (-1), 1) := by decide +kernel
theorem dX8_bestBreak_61 : decode cX8_bestBreak 61 = .ok (.if_icmp .eq 9, 3) := by decide +kernel
theorem dX8_bestBreak_64 : decode cX8_bestBreak 64 = .ok (.iload 4, 2) := by decide +kernel
theorem dX8_bestBreak_66 : decode cX8_bestBreak 66 = .ok (.iload_n 2, 1) := by decide +kernel
theorem dX8_bestBreak_67 : decode cX8_bestBreak 67 = .ok (.if_icmp .ge 7, 3) := by decide +kernel
theorem dX8_bestBreak_70 : decode cX8_bestBreak 70 = .ok (.iconst 1, 1) := by decide +kernel
theorem dX8_bestBreak_71 : decode cX8_bestBreak 71 = .ok (.goto 4, 3) := by decide +kernel
theorem dX8_bestBreak_74 : decode cX8_bestBreak 74 = .ok (.iconst 0, 1) := by decide +kernel
theorem dX8_bestBreak_75 : decode cX8_bestBreak 75 = .ok (.istore 5, 2) := by decide +kernel
theorem dX8_bestBreak_77 : decode cX8_bestBreak 77 = .ok (.iload 5, 2) := by decide +kernel
theorem dX8_bestBreak_79 : decode cX8_bestBreak 79 = .ok (.ifCond .eq 7, 3) := by decide +kernel
theorem dX8_bestBreak_82 : decode cX8_bestBreak 82 = .ok (.iload_n 3, 1) := by decide +kernel
theorem dX8_bestBreak_83 : decode cX8_bestBreak 83 = .ok (.goto 4, 3) := by decide +kernel
theorem dX8_bestBreak_86 : decode cX8_bestBreak 86 = .ok (.iload_n 1, 1) := by decide +kernel
theorem dX8_bestBreak_87 : decode cX8_bestBreak 87 = .ok (.istore_n 1, 1) := by decide +kernel
theorem dX8_bestBreak_88 : decode cX8_bestBreak 88 = .ok (.iload 5, 2) := by decide +kernel
theorem dX8_bestBreak_90 : decode cX8_bestBreak 90 = .ok (.ifCond .eq 8, 3) := by decide +kernel
theorem dX8_bestBreak_93 : decode cX8_bestBreak 93 = .ok (.iload 4, 2) := by decide +kernel
theorem dX8_bestBreak_95 : decode cX8_bestBreak 95 = .ok (.goto 4, 3) := by decide +kernel
theorem dX8_bestBreak_98 : decode cX8_bestBreak 98 = .ok (.iload_n 2, 1) := by decide +kernel
theorem dX8_bestBreak_99 : decode cX8_bestBreak 99 = .ok (.istore_n 2, 1) := by decide +kernel
theorem dX8_bestBreak_100 : decode cX8_bestBreak 100 = .ok (.iinc 3 1, 3) := by decide +kernel
theorem dX8_bestBreak_103 : decode cX8_bestBreak 103 = .ok (.goto (-92), 3) := by decide +kernel
theorem dX8_bestBreak_106 : decode cX8_bestBreak 106 = .ok (.iload_n 1, 1) := by decide +kernel
theorem dX8_bestBreak_107 : decode cX8_bestBreak 107 = .ok (.ireturn, 1) := by decide +kernel
theorem dX8_gapWith_0 : decode cX8_gapWith 0 = .ok (.aload_n 0, 1) := by decide +kernel
theorem dX8_gapWith_1 : decode cX8_gapWith 1 = .ok (.getfield 13, 3) := by decide +kernel
theorem dX8_gapWith_4 : decode cX8_gapWith 4 = .ok (.iconst 0, 1) := by decide +kernel
theorem dX8_gapWith_5 : decode cX8_gapWith 5 = .ok (.aload_n 0, 1) := by decide +kernel
theorem dX8_gapWith_6 : decode cX8_gapWith 6 = .ok (.getfield 16, 3) := by decide +kernel
theorem dX8_gapWith_9 : decode cX8_gapWith 9 = .ok (.iconst 0, 1) := by decide +kernel
theorem dX8_gapWith_10 : decode cX8_gapWith 10 = .ok (.invokestatic 175, 3) := by decide +kernel
theorem dX8_gapWith_13 : decode cX8_gapWith 13 = .ok (.aload_n 0, 1) := by decide +kernel
theorem dX8_gapWith_14 : decode cX8_gapWith 14 = .ok (.getfield 16, 3) := by decide +kernel
theorem dX8_gapWith_17 : decode cX8_gapWith 17 = .ok (.iload_n 1, 1) := by decide +kernel
theorem dX8_gapWith_18 : decode cX8_gapWith 18 = .ok (.iload_n 2, 1) := by decide +kernel
theorem dX8_gapWith_19 : decode cX8_gapWith 19 = .ok (.invokestatic 107, 3) := by decide +kernel
theorem dX8_gapWith_22 : decode cX8_gapWith 22 = .ok (.ireturn, 1) := by decide +kernel
theorem dX8_bestRun_0 : decode cX8_bestRun 0 = .ok (.aload_n 0, 1) := by decide +kernel
theorem dX8_bestRun_1 : decode cX8_bestRun 1 = .ok (.iconst 0, 1) := by decide +kernel
theorem dX8_bestRun_2 : decode cX8_bestRun 2 = .ok (.putfield 39, 3) := by decide +kernel
theorem dX8_bestRun_5 : decode cX8_bestRun 5 = .ok (.iconst (-1), 1) := by decide +kernel
theorem dX8_bestRun_6 : decode cX8_bestRun 6 = .ok (.istore_n 1, 1) := by decide +kernel
theorem dX8_bestRun_7 : decode cX8_bestRun 7 = .ok (.iconst 0, 1) := by decide +kernel
theorem dX8_bestRun_8 : decode cX8_bestRun 8 = .ok (.istore_n 2, 1) := by decide +kernel
theorem dX8_bestRun_9 : decode cX8_bestRun 9 = .ok (.iconst 0, 1) := by decide +kernel
theorem dX8_bestRun_10 : decode cX8_bestRun 10 = .ok (.istore_n 3, 1) := by decide +kernel
theorem dX8_bestRun_11 : decode cX8_bestRun 11 = .ok (.iload_n 3, 1) := by decide +kernel
theorem dX8_bestRun_12 : decode cX8_bestRun 12 = .ok (.aload_n 0, 1) := by decide +kernel
theorem dX8_bestRun_13 : decode cX8_bestRun 13 = .ok (.getfield 13, 3) := by decide +kernel
theorem dX8_bestRun_16 : decode cX8_bestRun 16 = .ok (.invokestatic 56, 3) := by decide +kernel
theorem dX8_bestRun_19 : decode cX8_bestRun 19 = .ok (.if_icmp .ge 84, 3) := by decide +kernel
theorem dX8_bestRun_22 : decode cX8_bestRun 22 = .ok (.aload_n 0, 1) := by decide +kernel
theorem dX8_bestRun_23 : decode cX8_bestRun 23 = .ok (.getfield 13, 3) := by decide +kernel
theorem dX8_bestRun_26 : decode cX8_bestRun 26 = .ok (.iload_n 3, 1) := by decide +kernel
theorem dX8_bestRun_27 : decode cX8_bestRun 27 = .ok (.invokestatic 104, 3) := by decide +kernel
theorem dX8_bestRun_30 : decode cX8_bestRun 30 = .ok (.ifCond .ne 17, 3) := by decide +kernel
theorem dX8_bestRun_33 : decode cX8_bestRun 33 = .ok (.aload_n 0, 1) := by decide +kernel
theorem dX8_bestRun_34 : decode cX8_bestRun 34 = .ok (.iload_n 3, 1) := by decide +kernel
theorem dX8_bestRun_35 : decode cX8_bestRun 35 = .ok (.aload_n 0, 1) := by decide +kernel
theorem dX8_bestRun_36 : decode cX8_bestRun 36 = .ok (.getfield 13, 3) := by decide +kernel
theorem dX8_bestRun_39 : decode cX8_bestRun 39 = .ok (.iconst 2, 1) := by decide +kernel
theorem dX8_bestRun_40 : decode cX8_bestRun 40 = .ok (.iaload, 1) := by decide +kernel
theorem dX8_bestRun_41 : decode cX8_bestRun 41 = .ok (.invokevirtual 204, 3) := by decide +kernel
theorem dX8_bestRun_44 : decode cX8_bestRun 44 = .ok (.goto 4, 3) := by decide +kernel
theorem dX8_bestRun_47 : decode cX8_bestRun 47 = .ok (.iconst (-1), 1) := by decide +kernel
theorem dX8_bestRun_48 : decode cX8_bestRun 48 = .ok (.istore 4, 2) := by decide +kernel
theorem dX8_bestRun_50 : decode cX8_bestRun 50 = .ok (.iload 4, 2) := by decide +kernel
theorem dX8_bestRun_52 : decode cX8_bestRun 52 = .ok (.iconst (-1), 1) := by decide +kernel
theorem dX8_bestRun_53 : decode cX8_bestRun 53 = .ok (.if_icmp .eq 18, 3) := by decide +kernel
theorem dX8_bestRun_56 : decode cX8_bestRun 56 = .ok (.iload_n 1, 1) := by decide +kernel
theorem dX8_bestRun_57 : decode cX8_bestRun 57 = .ok (.iconst (-1), 1) := by decide +kernel
theorem dX8_bestRun_58 : decode cX8_bestRun 58 = .ok (.if_icmp .eq 9, 3) := by decide +kernel
theorem dX8_bestRun_61 : decode cX8_bestRun 61 = .ok (.iload 4, 2) := by decide +kernel
theorem dX8_bestRun_63 : decode cX8_bestRun 63 = .ok (.iload_n 2, 1) := by decide +kernel
theorem dX8_bestRun_64 : decode cX8_bestRun 64 = .ok (.if_icmp .ge 7, 3) := by decide +kernel
theorem dX8_bestRun_67 : decode cX8_bestRun 67 = .ok (.iconst 1, 1) := by decide +kernel
theorem dX8_bestRun_68 : decode cX8_bestRun 68 = .ok (.goto 4, 3) := by decide +kernel
theorem dX8_bestRun_71 : decode cX8_bestRun 71 = .ok (.iconst 0, 1) := by decide +kernel
theorem dX8_bestRun_72 : decode cX8_bestRun 72 = .ok (.istore 5, 2) := by decide +kernel
theorem dX8_bestRun_74 : decode cX8_bestRun 74 = .ok (.iload 5, 2) := by decide +kernel
theorem dX8_bestRun_76 : decode cX8_bestRun 76 = .ok (.ifCond .eq 7, 3) := by decide +kernel
theorem dX8_bestRun_79 : decode cX8_bestRun 79 = .ok (.iload_n 3, 1) := by decide +kernel
theorem dX8_bestRun_80 : decode cX8_bestRun 80 = .ok (.goto 4, 3) := by decide +kernel
theorem dX8_bestRun_83 : decode cX8_bestRun 83 = .ok (.iload_n 1, 1) := by decide +kernel
theorem dX8_bestRun_84 : decode cX8_bestRun 84 = .ok (.istore_n 1, 1) := by decide +kernel
theorem dX8_bestRun_85 : decode cX8_bestRun 85 = .ok (.iload 5, 2) := by decide +kernel
theorem dX8_bestRun_87 : decode cX8_bestRun 87 = .ok (.ifCond .eq 8, 3) := by decide +kernel
theorem dX8_bestRun_90 : decode cX8_bestRun 90 = .ok (.iload 4, 2) := by decide +kernel
theorem dX8_bestRun_92 : decode cX8_bestRun 92 = .ok (.goto 4, 3) := by decide +kernel
theorem dX8_bestRun_95 : decode cX8_bestRun 95 = .ok (.iload_n 2, 1) := by decide +kernel
theorem dX8_bestRun_96 : decode cX8_bestRun 96 = .ok (.istore_n 2, 1) := by decide +kernel
theorem dX8_bestRun_97 : decode cX8_bestRun 97 = .ok (.iinc 3 1, 3) := by decide +kernel
theorem dX8_bestRun_100 : decode cX8_bestRun 100 = .ok (.goto (-89), 3) := by decide +kernel
theorem dX8_bestRun_103 : decode cX8_bestRun 103 = .ok (.iload_n 1, 1) := by decide +kernel
theorem dX8_bestRun_104 : decode cX8_bestRun 104 = .ok (.ireturn, 1) := by decide +kernel
theorem dX8_ifGiven_0 : decode cX8_ifGiven 0 = .ok (.aload_n 0, 1) := by decide +kernel
theorem dX8_ifGiven_1 : decode cX8_ifGiven 1 = .ok (.aload_n 0, 1) := by decide +kernel
theorem dX8_ifGiven_2 : decode cX8_ifGiven 2 = .ok (.getfield 13, 3) := by decide +kernel
theorem dX8_ifGiven_5 : decode cX8_ifGiven 5 = .ok (.iload_n 1, 1) := by decide +kernel
theorem dX8_ifGiven_6 : decode cX8_ifGiven 6 = .ok (.invokestatic 157, 3) := by decide +kernel
theorem dX8_ifGiven_9 : decode cX8_ifGiven 9 = .ok (.ifCond .ne 7, 3) := by decide +kernel
theorem dX8_ifGiven_12 : decode cX8_ifGiven 12 = .ok (.iconst 1, 1) := by decide +kernel
theorem dX8_ifGiven_13 : decode cX8_ifGiven 13 = .ok (.goto 15, 3) := by decide +kernel
theorem dX8_ifGiven_16 : decode cX8_ifGiven 16 = .ok (.iload_n 2, 1) := by decide +kernel
theorem dX8_ifGiven_17 : decode cX8_ifGiven 17 = .ok (.invokestatic 196, 3) := by decide +kernel
theorem dX8_ifGiven_20 : decode cX8_ifGiven 20 = .ok (.ifCond .eq 7, 3) := by decide +kernel
theorem dX8_ifGiven_23 : decode cX8_ifGiven 23 = .ok (.iconst 0, 1) := by decide +kernel
theorem dX8_ifGiven_24 : decode cX8_ifGiven 24 = .ok (.goto 4, 3) := by decide +kernel
theorem dX8_ifGiven_27 : decode cX8_ifGiven 27 = .ok (.iconst 2, 1) := by decide +kernel
theorem dX8_ifGiven_28 : decode cX8_ifGiven 28 = .ok (.invokevirtual 115, 3) := by decide +kernel
theorem dX8_ifGiven_31 : decode cX8_ifGiven 31 = .ok (.ifCond .eq 5, 3) := by decide +kernel
theorem dX8_ifGiven_34 : decode cX8_ifGiven 34 = .ok (.iconst 0, 1) := by decide +kernel
theorem dX8_ifGiven_35 : decode cX8_ifGiven 35 = .ok (.ireturn, 1) := by decide +kernel
theorem dX8_ifGiven_36 : decode cX8_ifGiven 36 = .ok (.aload_n 0, 1) := by decide +kernel
theorem dX8_ifGiven_37 : decode cX8_ifGiven 37 = .ok (.iload_n 1, 1) := by decide +kernel
theorem dX8_ifGiven_38 : decode cX8_ifGiven 38 = .ok (.iload_n 2, 1) := by decide +kernel
theorem dX8_ifGiven_39 : decode cX8_ifGiven 39 = .ok (.invokevirtual 204, 3) := by decide +kernel
theorem dX8_ifGiven_42 : decode cX8_ifGiven 42 = .ok (.ireturn, 1) := by decide +kernel
theorem dX8_command_0 : decode cX8_command 0 = .ok (.iload_n 2, 1) := by decide +kernel
theorem dX8_command_1 : decode cX8_command 1 = .ok (.bipush 100, 2) := by decide +kernel
theorem dX8_command_3 : decode cX8_command 3 = .ok (.idiv, 1) := by decide +kernel
theorem dX8_command_4 : decode cX8_command 4 = .ok (.istore_n 3, 1) := by decide +kernel
theorem dX8_command_5 : decode cX8_command 5 = .ok (.iload_n 2, 1) := by decide +kernel
theorem dX8_command_6 : decode cX8_command 6 = .ok (.bipush 10, 2) := by decide +kernel
theorem dX8_command_8 : decode cX8_command 8 = .ok (.idiv, 1) := by decide +kernel
theorem dX8_command_9 : decode cX8_command 9 = .ok (.bipush 10, 2) := by decide +kernel
theorem dX8_command_11 : decode cX8_command 11 = .ok (.irem, 1) := by decide +kernel
theorem dX8_command_12 : decode cX8_command 12 = .ok (.istore 4, 2) := by decide +kernel
theorem dX8_command_14 : decode cX8_command 14 = .ok (.iload_n 2, 1) := by decide +kernel
theorem dX8_command_15 : decode cX8_command 15 = .ok (.bipush 10, 2) := by decide +kernel
theorem dX8_command_17 : decode cX8_command 17 = .ok (.irem, 1) := by decide +kernel
theorem dX8_command_18 : decode cX8_command 18 = .ok (.istore 5, 2) := by decide +kernel
theorem dX8_command_20 : decode cX8_command 20 = .ok (.iload_n 2, 1) := by decide +kernel
theorem dX8_command_21 : decode cX8_command 21 = .ok (.bipush 100, 2) := by decide +kernel
theorem dX8_command_23 : decode cX8_command 23 = .ok (.irem, 1) := by decide +kernel
theorem dX8_command_24 : decode cX8_command 24 = .ok (.istore 6, 2) := by decide +kernel
theorem dX8_command_26 : decode cX8_command 26 = .ok (.iload_n 1, 1) := by decide +kernel
theorem dX8_command_27 : decode cX8_command 27 = .ok (.tableswitch 373 1 9 #[49, 94, 140, 173, 195, 228, 251, 271, 323], 49) := by decide +kernel
theorem dX8_command_76 : decode cX8_command 76 = .ok (.iload 6, 2) := by decide +kernel
theorem dX8_command_78 : decode cX8_command 78 = .ok (.iconst 2, 1) := by decide +kernel
theorem dX8_command_79 : decode cX8_command 79 = .ok (.if_icmp .ge 40, 3) := by decide +kernel
theorem dX8_command_82 : decode cX8_command 82 = .ok (.aload_n 0, 1) := by decide +kernel
theorem dX8_command_83 : decode cX8_command 83 = .ok (.getfield 16, 3) := by decide +kernel
theorem dX8_command_86 : decode cX8_command 86 = .ok (.iload_n 3, 1) := by decide +kernel
theorem dX8_command_87 : decode cX8_command 87 = .ok (.invokestatic 150, 3) := by decide +kernel
theorem dX8_command_90 : decode cX8_command 90 = .ok (.ifCond .eq 29, 3) := by decide +kernel
theorem dX8_command_93 : decode cX8_command 93 = .ok (.aload_n 0, 1) := by decide +kernel
theorem dX8_command_94 : decode cX8_command 94 = .ok (.getfield 16, 3) := by decide +kernel
theorem dX8_command_97 : decode cX8_command 97 = .ok (.iload_n 3, 1) := by decide +kernel
theorem dX8_command_98 : decode cX8_command 98 = .ok (.iload 6, 2) := by decide +kernel
theorem dX8_command_100 : decode cX8_command 100 = .ok (.iconst 1, 1) := by decide +kernel
theorem dX8_command_101 : decode cX8_command 101 = .ok (.if_icmp .ne 7, 3) := by decide +kernel
theorem dX8_command_104 : decode cX8_command 104 = .ok (.iconst 1, 1) := by decide +kernel
theorem dX8_command_105 : decode cX8_command 105 = .ok (.goto 4, 3) := by decide +kernel
theorem dX8_command_108 : decode cX8_command 108 = .ok (.iconst 0, 1) := by decide +kernel
theorem dX8_command_109 : decode cX8_command 109 = .ok (.invokestatic 153, 3) := by decide +kernel
theorem dX8_command_112 : decode cX8_command 112 = .ok (.ifCond .le 7, 3) := by decide +kernel
theorem dX8_command_115 : decode cX8_command 115 = .ok (.iconst 1, 1) := by decide +kernel
theorem dX8_command_116 : decode cX8_command 116 = .ok (.goto 4, 3) := by decide +kernel
theorem dX8_command_119 : decode cX8_command 119 = .ok (.iconst 0, 1) := by decide +kernel
theorem dX8_command_120 : decode cX8_command 120 = .ok (.ireturn, 1) := by decide +kernel
theorem dX8_command_121 : decode cX8_command 121 = .ok (.iload 6, 2) := by decide +kernel
theorem dX8_command_123 : decode cX8_command 123 = .ok (.iconst 3, 1) := by decide +kernel
theorem dX8_command_124 : decode cX8_command 124 = .ok (.if_icmp .ge 41, 3) := by decide +kernel
theorem dX8_command_127 : decode cX8_command 127 = .ok (.aload_n 0, 1) := by decide +kernel
theorem dX8_command_128 : decode cX8_command 128 = .ok (.getfield 16, 3) := by decide +kernel
theorem dX8_command_131 : decode cX8_command 131 = .ok (.iload_n 3, 1) := by decide +kernel
theorem dX8_command_132 : decode cX8_command 132 = .ok (.invokestatic 157, 3) := by decide +kernel
theorem dX8_command_135 : decode cX8_command 135 = .ok (.ifCond .eq 30, 3) := by decide +kernel
theorem dX8_command_138 : decode cX8_command 138 = .ok (.aload_n 0, 1) := by decide +kernel
theorem dX8_command_139 : decode cX8_command 139 = .ok (.getfield 16, 3) := by decide +kernel
theorem dX8_command_142 : decode cX8_command 142 = .ok (.iload_n 3, 1) := by decide +kernel
theorem dX8_command_143 : decode cX8_command 143 = .ok (.iload 6, 2) := by decide +kernel
theorem dX8_command_145 : decode cX8_command 145 = .ok (.iconst 2, 1) := by decide +kernel
theorem dX8_command_146 : decode cX8_command 146 = .ok (.if_icmp .ne 7, 3) := by decide +kernel
theorem dX8_command_149 : decode cX8_command 149 = .ok (.iconst (-1), 1) := by decide +kernel
theorem dX8_command_150 : decode cX8_command 150 = .ok (.goto 5, 3) := by decide +kernel
theorem dX8_command_153 : decode cX8_command 153 = .ok (.iload 6, 2) := by decide +kernel
theorem dX8_command_155 : decode cX8_command 155 = .ok (.invokestatic 107, 3) := by decide +kernel
theorem dX8_command_158 : decode cX8_command 158 = .ok (.ifCond .lt 7, 3) := by decide +kernel
theorem dX8_command_161 : decode cX8_command 161 = .ok (.iconst 1, 1) := by decide +kernel
theorem dX8_command_162 : decode cX8_command 162 = .ok (.goto 4, 3) := by decide +kernel
theorem dX8_command_165 : decode cX8_command 165 = .ok (.iconst 0, 1) := by decide +kernel
theorem dX8_command_166 : decode cX8_command 166 = .ok (.ireturn, 1) := by decide +kernel
theorem dX8_command_167 : decode cX8_command 167 = .ok (.iload 6, 2) := by decide +kernel
theorem dX8_command_169 : decode cX8_command 169 = .ok (.ifCond .ne 29, 3) := by decide +kernel
theorem dX8_command_172 : decode cX8_command 172 = .ok (.aload_n 0, 1) := by decide +kernel
theorem dX8_command_173 : decode cX8_command 173 = .ok (.getfield 16, 3) := by decide +kernel
theorem dX8_command_176 : decode cX8_command 176 = .ok (.iload_n 3, 1) := by decide +kernel
theorem dX8_command_177 : decode cX8_command 177 = .ok (.invokestatic 157, 3) := by decide +kernel
theorem dX8_command_180 : decode cX8_command 180 = .ok (.ifCond .eq 18, 3) := by decide +kernel
theorem dX8_command_183 : decode cX8_command 183 = .ok (.aload_n 0, 1) := by decide +kernel
theorem dX8_command_184 : decode cX8_command 184 = .ok (.getfield 16, 3) := by decide +kernel
theorem dX8_command_187 : decode cX8_command 187 = .ok (.iload_n 3, 1) := by decide +kernel
theorem dX8_command_188 : decode cX8_command 188 = .ok (.invokestatic 160, 3) := by decide +kernel
theorem dX8_command_191 : decode cX8_command 191 = .ok (.ifCond .ne 7, 3) := by decide +kernel
theorem dX8_command_194 : decode cX8_command 194 = .ok (.iconst 1, 1) := by decide +kernel
theorem dX8_command_195 : decode cX8_command 195 = .ok (.goto 4, 3) := by decide +kernel
theorem dX8_command_198 : decode cX8_command 198 = .ok (.iconst 0, 1) := by decide +kernel
theorem dX8_command_199 : decode cX8_command 199 = .ok (.ireturn, 1) := by decide +kernel
theorem dX8_command_200 : decode cX8_command 200 = .ok (.iload_n 2, 1) := by decide +kernel
theorem dX8_command_201 : decode cX8_command 201 = .ok (.iconst 2, 1) := by decide +kernel
theorem dX8_command_202 : decode cX8_command 202 = .ok (.if_icmp .ge 18, 3) := by decide +kernel
theorem dX8_command_205 : decode cX8_command 205 = .ok (.aload_n 0, 1) := by decide +kernel
theorem dX8_command_206 : decode cX8_command 206 = .ok (.getfield 16, 3) := by decide +kernel
theorem dX8_command_209 : decode cX8_command 209 = .ok (.iload_n 2, 1) := by decide +kernel
theorem dX8_command_210 : decode cX8_command 210 = .ok (.invokestatic 163, 3) := by decide +kernel
theorem dX8_command_213 : decode cX8_command 213 = .ok (.ifCond .lt 7, 3) := by decide +kernel
theorem dX8_command_216 : decode cX8_command 216 = .ok (.iconst 1, 1) := by decide +kernel
theorem dX8_command_217 : decode cX8_command 217 = .ok (.goto 4, 3) := by decide +kernel
theorem dX8_command_220 : decode cX8_command 220 = .ok (.iconst 0, 1) := by decide +kernel
theorem dX8_command_221 : decode cX8_command 221 = .ok (.ireturn, 1) := by decide +kernel
theorem dX8_command_222 : decode cX8_command 222 = .ok (.iload 6, 2) := by decide +kernel
theorem dX8_command_224 : decode cX8_command 224 = .ok (.ifCond .ne 29, 3) := by decide +kernel
theorem dX8_command_227 : decode cX8_command 227 = .ok (.aload_n 0, 1) := by decide +kernel
theorem dX8_command_228 : decode cX8_command 228 = .ok (.getfield 16, 3) := by decide +kernel
theorem dX8_command_231 : decode cX8_command 231 = .ok (.iload_n 3, 1) := by decide +kernel
theorem dX8_command_232 : decode cX8_command 232 = .ok (.invokestatic 144, 3) := by decide +kernel
theorem dX8_command_235 : decode cX8_command 235 = .ok (.ifCond .eq 18, 3) := by decide +kernel
theorem dX8_command_238 : decode cX8_command 238 = .ok (.aload_n 0, 1) := by decide +kernel
theorem dX8_command_239 : decode cX8_command 239 = .ok (.getfield 16, 3) := by decide +kernel
theorem dX8_command_242 : decode cX8_command 242 = .ok (.iload_n 3, 1) := by decide +kernel
theorem dX8_command_243 : decode cX8_command 243 = .ok (.invokestatic 147, 3) := by decide +kernel
theorem dX8_command_246 : decode cX8_command 246 = .ok (.ifCond .lt 7, 3) := by decide +kernel
theorem dX8_command_249 : decode cX8_command 249 = .ok (.iconst 1, 1) := by decide +kernel
theorem dX8_command_250 : decode cX8_command 250 = .ok (.goto 4, 3) := by decide +kernel
theorem dX8_command_253 : decode cX8_command 253 = .ok (.iconst 0, 1) := by decide +kernel
theorem dX8_command_254 : decode cX8_command 254 = .ok (.ireturn, 1) := by decide +kernel
theorem dX8_command_255 : decode cX8_command 255 = .ok (.iload_n 2, 1) := by decide +kernel
theorem dX8_command_256 : decode cX8_command 256 = .ok (.bipush 100, 2) := by decide +kernel
theorem dX8_command_258 : decode cX8_command 258 = .ok (.if_icmp .ge 18, 3) := by decide +kernel
theorem dX8_command_261 : decode cX8_command 261 = .ok (.aload_n 0, 1) := by decide +kernel
theorem dX8_command_262 : decode cX8_command 262 = .ok (.getfield 16, 3) := by decide +kernel
theorem dX8_command_265 : decode cX8_command 265 = .ok (.invokestatic 95, 3) := by decide +kernel
theorem dX8_command_268 : decode cX8_command 268 = .ok (.iload_n 2, 1) := by decide +kernel
theorem dX8_command_269 : decode cX8_command 269 = .ok (.if_icmp .gt 7, 3) := by decide +kernel
theorem dX8_command_272 : decode cX8_command 272 = .ok (.iconst 1, 1) := by decide +kernel
theorem dX8_command_273 : decode cX8_command 273 = .ok (.goto 4, 3) := by decide +kernel
theorem dX8_command_276 : decode cX8_command 276 = .ok (.iconst 0, 1) := by decide +kernel
theorem dX8_command_277 : decode cX8_command 277 = .ok (.ireturn, 1) := by decide +kernel
theorem dX8_command_278 : decode cX8_command 278 = .ok (.iload_n 2, 1) := by decide +kernel
theorem dX8_command_279 : decode cX8_command 279 = .ok (.bipush 10, 2) := by decide +kernel
theorem dX8_command_281 : decode cX8_command 281 = .ok (.if_icmp .ge 15, 3) := by decide +kernel
theorem dX8_command_284 : decode cX8_command 284 = .ok (.aload_n 0, 1) := by decide +kernel
theorem dX8_command_285 : decode cX8_command 285 = .ok (.iload_n 2, 1) := by decide +kernel
theorem dX8_command_286 : decode cX8_command 286 = .ok (.invokevirtual 207, 3) := by decide +kernel
theorem dX8_command_289 : decode cX8_command 289 = .ok (.ifCond .eq 7, 3) := by decide +kernel
theorem dX8_command_292 : decode cX8_command 292 = .ok (.iconst 1, 1) := by decide +kernel
theorem dX8_command_293 : decode cX8_command 293 = .ok (.goto 4, 3) := by decide +kernel
theorem dX8_command_296 : decode cX8_command 296 = .ok (.iconst 0, 1) := by decide +kernel
theorem dX8_command_297 : decode cX8_command 297 = .ok (.ireturn, 1) := by decide +kernel
theorem dX8_command_298 : decode cX8_command 298 = .ok (.iload 4, 2) := by decide +kernel
theorem dX8_command_300 : decode cX8_command 300 = .ok (.ifCond .ne 48, 3) := by decide +kernel
theorem dX8_command_303 : decode cX8_command 303 = .ok (.iload 5, 2) := by decide +kernel
theorem dX8_command_305 : decode cX8_command 305 = .ok (.iconst 3, 1) := by decide +kernel
theorem dX8_command_306 : decode cX8_command 306 = .ok (.if_icmp .ge 42, 3) := by decide +kernel
theorem dX8_command_309 : decode cX8_command 309 = .ok (.aload_n 0, 1) := by decide +kernel
theorem dX8_command_310 : decode cX8_command 310 = .ok (.getfield 16, 3) := by decide +kernel
theorem dX8_command_313 : decode cX8_command 313 = .ok (.iload_n 3, 1) := by decide +kernel
theorem dX8_command_314 : decode cX8_command 314 = .ok (.invokestatic 144, 3) := by decide +kernel
theorem dX8_command_317 : decode cX8_command 317 = .ok (.ifCond .eq 31, 3) := by decide +kernel
theorem dX8_command_320 : decode cX8_command 320 = .ok (.aload_n 0, 1) := by decide +kernel
theorem dX8_command_321 : decode cX8_command 321 = .ok (.getfield 16, 3) := by decide +kernel
theorem dX8_command_324 : decode cX8_command 324 = .ok (.bipush 38, 2) := by decide +kernel
theorem dX8_command_326 : decode cX8_command 326 = .ok (.iload_n 3, 1) := by decide +kernel
theorem dX8_command_327 : decode cX8_command 327 = .ok (.iadd, 1) := by decide +kernel
theorem dX8_command_328 : decode cX8_command 328 = .ok (.iaload, 1) := by decide +kernel
theorem dX8_command_329 : decode cX8_command 329 = .ok (.iload 5, 2) := by decide +kernel
theorem dX8_command_331 : decode cX8_command 331 = .ok (.iconst 2, 1) := by decide +kernel
theorem dX8_command_332 : decode cX8_command 332 = .ok (.if_icmp .ne 7, 3) := by decide +kernel
theorem dX8_command_335 : decode cX8_command 335 = .ok (.iconst (-1), 1) := by decide +kernel
theorem dX8_command_336 : decode cX8_command 336 = .ok (.goto 5, 3) := by decide +kernel
theorem dX8_command_339 : decode cX8_command 339 = .ok (.iload 5, 2) := by decide +kernel
theorem dX8_command_341 : decode cX8_command 341 = .ok (.if_icmp .ne 7, 3) := by decide +kernel
theorem dX8_command_344 : decode cX8_command 344 = .ok (.iconst 1, 1) := by decide +kernel
theorem dX8_command_345 : decode cX8_command 345 = .ok (.goto 4, 3) := by decide +kernel
theorem dX8_command_348 : decode cX8_command 348 = .ok (.iconst 0, 1) := by decide +kernel
theorem dX8_command_349 : decode cX8_command 349 = .ok (.ireturn, 1) := by decide +kernel
theorem dX8_command_350 : decode cX8_command 350 = .ok (.iload_n 2, 1) := by decide +kernel
theorem dX8_command_351 : decode cX8_command 351 = .ok (.sipush 1000, 3) := by decide +kernel
theorem dX8_command_354 : decode cX8_command 354 = .ok (.idiv, 1) := by decide +kernel
theorem dX8_command_355 : decode cX8_command 355 = .ok (.iconst 2, 1) := by decide +kernel
theorem dX8_command_356 : decode cX8_command 356 = .ok (.if_icmp .ge 42, 3) := by decide +kernel
theorem dX8_command_359 : decode cX8_command 359 = .ok (.iload_n 2, 1) := by decide +kernel
theorem dX8_command_360 : decode cX8_command 360 = .ok (.bipush 100, 2) := by decide +kernel
theorem dX8_command_362 : decode cX8_command 362 = .ok (.idiv, 1) := by decide +kernel
theorem dX8_command_363 : decode cX8_command 363 = .ok (.bipush 10, 2) := by decide +kernel
theorem dX8_command_365 : decode cX8_command 365 = .ok (.irem, 1) := by decide +kernel
theorem dX8_command_366 : decode cX8_command 366 = .ok (.iconst 4, 1) := by decide +kernel
theorem dX8_command_367 : decode cX8_command 367 = .ok (.if_icmp .ge 31, 3) := by decide +kernel
theorem dX8_command_370 : decode cX8_command 370 = .ok (.aload_n 0, 1) := by decide +kernel
theorem dX8_command_371 : decode cX8_command 371 = .ok (.getfield 16, 3) := by decide +kernel
theorem dX8_command_374 : decode cX8_command 374 = .ok (.iload_n 2, 1) := by decide +kernel
theorem dX8_command_375 : decode cX8_command 375 = .ok (.sipush 1000, 3) := by decide +kernel
theorem dX8_command_378 : decode cX8_command 378 = .ok (.idiv, 1) := by decide +kernel
theorem dX8_command_379 : decode cX8_command 379 = .ok (.iload_n 2, 1) := by decide +kernel
theorem dX8_command_380 : decode cX8_command 380 = .ok (.bipush 100, 2) := by decide +kernel
theorem dX8_command_382 : decode cX8_command 382 = .ok (.idiv, 1) := by decide +kernel
theorem dX8_command_383 : decode cX8_command 383 = .ok (.bipush 10, 2) := by decide +kernel
theorem dX8_command_385 : decode cX8_command 385 = .ok (.irem, 1) := by decide +kernel
theorem dX8_command_386 : decode cX8_command 386 = .ok (.invokestatic 74, 3) := by decide +kernel
theorem dX8_command_389 : decode cX8_command 389 = .ok (.iload 6, 2) := by decide +kernel
theorem dX8_command_391 : decode cX8_command 391 = .ok (.if_icmp .lt 7, 3) := by decide +kernel
theorem dX8_command_394 : decode cX8_command 394 = .ok (.iconst 1, 1) := by decide +kernel
theorem dX8_command_395 : decode cX8_command 395 = .ok (.goto 4, 3) := by decide +kernel
theorem dX8_command_398 : decode cX8_command 398 = .ok (.iconst 0, 1) := by decide +kernel
theorem dX8_command_399 : decode cX8_command 399 = .ok (.ireturn, 1) := by decide +kernel
theorem dX8_command_400 : decode cX8_command 400 = .ok (.iconst 0, 1) := by decide +kernel
theorem dX8_command_401 : decode cX8_command 401 = .ok (.ireturn, 1) := by decide +kernel
theorem dX8_isDivided_0 : decode cX8_isDivided 0 = .ok (.aload_n 0, 1) := by decide +kernel
theorem dX8_isDivided_1 : decode cX8_isDivided 1 = .ok (.aload_n 0, 1) := by decide +kernel
theorem dX8_isDivided_2 : decode cX8_isDivided 2 = .ok (.getfield 16, 3) := by decide +kernel
theorem dX8_isDivided_5 : decode cX8_isDivided 5 = .ok (.invokevirtual 199, 3) := by decide +kernel
theorem dX8_isDivided_8 : decode cX8_isDivided 8 = .ok (.istore_n 2, 1) := by decide +kernel
theorem dX8_isDivided_9 : decode cX8_isDivided 9 = .ok (.iload_n 2, 1) := by decide +kernel
theorem dX8_isDivided_10 : decode cX8_isDivided 10 = .ok (.iconst (-1), 1) := by decide +kernel
theorem dX8_isDivided_11 : decode cX8_isDivided 11 = .ok (.if_icmp .eq 12, 3) := by decide +kernel
theorem dX8_isDivided_14 : decode cX8_isDivided 14 = .ok (.iload_n 2, 1) := by decide +kernel
theorem dX8_isDivided_15 : decode cX8_isDivided 15 = .ok (.iload_n 1, 1) := by decide +kernel
theorem dX8_isDivided_16 : decode cX8_isDivided 16 = .ok (.if_icmp .gt 7, 3) := by decide +kernel
theorem dX8_isDivided_19 : decode cX8_isDivided 19 = .ok (.iconst 1, 1) := by decide +kernel
theorem dX8_isDivided_20 : decode cX8_isDivided 20 = .ok (.goto 4, 3) := by decide +kernel
theorem dX8_isDivided_23 : decode cX8_isDivided 23 = .ok (.iconst 0, 1) := by decide +kernel
theorem dX8_isDivided_24 : decode cX8_isDivided 24 = .ok (.ireturn, 1) := by decide +kernel
theorem dX8_runScript_0 : decode cX8_runScript 0 = .ok (.lconst 1, 1) := by decide +kernel
theorem dX8_runScript_1 : decode cX8_runScript 1 = .ok (.lstore 4, 2) := by decide +kernel
theorem dX8_runScript_3 : decode cX8_runScript 3 = .ok (.iconst 0, 1) := by decide +kernel
theorem dX8_runScript_4 : decode cX8_runScript 4 = .ok (.istore 6, 2) := by decide +kernel
theorem dX8_runScript_6 : decode cX8_runScript 6 = .ok (.iload 6, 2) := by decide +kernel
theorem dX8_runScript_8 : decode cX8_runScript 8 = .ok (.iload_n 1, 1) := by decide +kernel
theorem dX8_runScript_9 : decode cX8_runScript 9 = .ok (.if_icmp .ge 23, 3) := by decide +kernel
theorem dX8_runScript_12 : decode cX8_runScript 12 = .ok (.iload 6, 2) := by decide +kernel
theorem dX8_runScript_14 : decode cX8_runScript 14 = .ok (.iconst 3, 1) := by decide +kernel
theorem dX8_runScript_15 : decode cX8_runScript 15 = .ok (.if_icmp .ge 17, 3) := by decide +kernel
theorem dX8_runScript_18 : decode cX8_runScript 18 = .ok (.lload 4, 2) := by decide +kernel
theorem dX8_runScript_20 : decode cX8_runScript 20 = .ok (.ldc2_w 210, 3) := by decide +kernel
theorem dX8_runScript_23 : decode cX8_runScript 23 = .ok (.lmul, 1) := by decide +kernel
theorem dX8_runScript_24 : decode cX8_runScript 24 = .ok (.lstore 4, 2) := by decide +kernel
theorem dX8_runScript_26 : decode cX8_runScript 26 = .ok (.iinc 6 1, 3) := by decide +kernel
theorem dX8_runScript_29 : decode cX8_runScript 29 = .ok (.goto (-23), 3) := by decide +kernel
theorem dX8_runScript_32 : decode cX8_runScript 32 = .ok (.aload_n 0, 1) := by decide +kernel
theorem dX8_runScript_33 : decode cX8_runScript 33 = .ok (.iload_n 1, 1) := by decide +kernel
theorem dX8_runScript_34 : decode cX8_runScript 34 = .ok (.i2l, 1) := by decide +kernel
theorem dX8_runScript_35 : decode cX8_runScript 35 = .ok (.lconst 1, 1) := by decide +kernel
theorem dX8_runScript_36 : decode cX8_runScript 36 = .ok (.ldc2_w 127, 3) := by decide +kernel
theorem dX8_runScript_39 : decode cX8_runScript 39 = .ok (.invokestatic 46, 3) := by decide +kernel
theorem dX8_runScript_42 : decode cX8_runScript 42 = .ok (.ifCond .eq 19, 3) := by decide +kernel
theorem dX8_runScript_45 : decode cX8_runScript 45 = .ok (.lload_n 2, 1) := by decide +kernel
theorem dX8_runScript_46 : decode cX8_runScript 46 = .ok (.lconst 0, 1) := by decide +kernel
theorem dX8_runScript_47 : decode cX8_runScript 47 = .ok (.lload 4, 2) := by decide +kernel
theorem dX8_runScript_49 : decode cX8_runScript 49 = .ok (.lconst 1, 1) := by decide +kernel
theorem dX8_runScript_50 : decode cX8_runScript 50 = .ok (.lsub, 1) := by decide +kernel
theorem dX8_runScript_51 : decode cX8_runScript 51 = .ok (.invokestatic 46, 3) := by decide +kernel
theorem dX8_runScript_54 : decode cX8_runScript 54 = .ok (.ifCond .eq 7, 3) := by decide +kernel
theorem dX8_runScript_57 : decode cX8_runScript 57 = .ok (.iconst 0, 1) := by decide +kernel
theorem dX8_runScript_58 : decode cX8_runScript 58 = .ok (.goto 4, 3) := by decide +kernel
theorem dX8_runScript_61 : decode cX8_runScript 61 = .ok (.iconst 1, 1) := by decide +kernel
theorem dX8_runScript_62 : decode cX8_runScript 62 = .ok (.invokevirtual 115, 3) := by decide +kernel
theorem dX8_runScript_65 : decode cX8_runScript 65 = .ok (.ifCond .eq 5, 3) := by decide +kernel
theorem dX8_runScript_68 : decode cX8_runScript 68 = .ok (.iconst 0, 1) := by decide +kernel
theorem dX8_runScript_69 : decode cX8_runScript 69 = .ok (.ireturn, 1) := by decide +kernel
theorem dX8_runScript_70 : decode cX8_runScript 70 = .ok (.aload_n 0, 1) := by decide +kernel
theorem dX8_runScript_71 : decode cX8_runScript 71 = .ok (.getfield 13, 3) := by decide +kernel
theorem dX8_runScript_74 : decode cX8_runScript 74 = .ok (.iconst 0, 1) := by decide +kernel
theorem dX8_runScript_75 : decode cX8_runScript 75 = .ok (.aload_n 0, 1) := by decide +kernel
theorem dX8_runScript_76 : decode cX8_runScript 76 = .ok (.getfield 16, 3) := by decide +kernel
theorem dX8_runScript_79 : decode cX8_runScript 79 = .ok (.iconst 0, 1) := by decide +kernel
theorem dX8_runScript_80 : decode cX8_runScript 80 = .ok (.invokestatic 175, 3) := by decide +kernel
theorem dX8_runScript_83 : decode cX8_runScript 83 = .ok (.iconst 0, 1) := by decide +kernel
theorem dX8_runScript_84 : decode cX8_runScript 84 = .ok (.istore 6, 2) := by decide +kernel
theorem dX8_runScript_86 : decode cX8_runScript 86 = .ok (.iload 6, 2) := by decide +kernel
theorem dX8_runScript_88 : decode cX8_runScript 88 = .ok (.iload_n 1, 1) := by decide +kernel
theorem dX8_runScript_89 : decode cX8_runScript 89 = .ok (.if_icmp .ge 50, 3) := by decide +kernel
theorem dX8_runScript_92 : decode cX8_runScript 92 = .ok (.lload 4, 2) := by decide +kernel
theorem dX8_runScript_94 : decode cX8_runScript 94 = .ok (.ldc2_w 210, 3) := by decide +kernel
theorem dX8_runScript_97 : decode cX8_runScript 97 = .ok (.ldiv, 1) := by decide +kernel
theorem dX8_runScript_98 : decode cX8_runScript 98 = .ok (.lstore 4, 2) := by decide +kernel
theorem dX8_runScript_100 : decode cX8_runScript 100 = .ok (.lload_n 2, 1) := by decide +kernel
theorem dX8_runScript_101 : decode cX8_runScript 101 = .ok (.lload 4, 2) := by decide +kernel
theorem dX8_runScript_103 : decode cX8_runScript 103 = .ok (.ldiv, 1) := by decide +kernel
theorem dX8_runScript_104 : decode cX8_runScript 104 = .ok (.ldc2_w 210, 3) := by decide +kernel
theorem dX8_runScript_107 : decode cX8_runScript 107 = .ok (.lrem, 1) := by decide +kernel
theorem dX8_runScript_108 : decode cX8_runScript 108 = .ok (.l2i, 1) := by decide +kernel
theorem dX8_runScript_109 : decode cX8_runScript 109 = .ok (.istore 7, 2) := by decide +kernel
theorem dX8_runScript_111 : decode cX8_runScript 111 = .ok (.aload_n 0, 1) := by decide +kernel
theorem dX8_runScript_112 : decode cX8_runScript 112 = .ok (.iload 7, 2) := by decide +kernel
theorem dX8_runScript_114 : decode cX8_runScript 114 = .ok (.sipush 10000, 3) := by decide +kernel
theorem dX8_runScript_117 : decode cX8_runScript 117 = .ok (.idiv, 1) := by decide +kernel
theorem dX8_runScript_118 : decode cX8_runScript 118 = .ok (.iload 7, 2) := by decide +kernel
theorem dX8_runScript_120 : decode cX8_runScript 120 = .ok (.sipush 10000, 3) := by decide +kernel
theorem dX8_runScript_123 : decode cX8_runScript 123 = .ok (.irem, 1) := by decide +kernel
theorem dX8_runScript_124 : decode cX8_runScript 124 = .ok (.invokevirtual 212, 3) := by decide +kernel
theorem dX8_runScript_127 : decode cX8_runScript 127 = .ok (.ifCond .ne 6, 3) := by decide +kernel
theorem dX8_runScript_130 : decode cX8_runScript 130 = .ok (.iload 6, 2) := by decide +kernel
theorem dX8_runScript_132 : decode cX8_runScript 132 = .ok (.ireturn, 1) := by decide +kernel
theorem dX8_runScript_133 : decode cX8_runScript 133 = .ok (.iinc 6 1, 3) := by decide +kernel
theorem dX8_runScript_136 : decode cX8_runScript 136 = .ok (.goto (-50), 3) := by decide +kernel
theorem dX8_runScript_139 : decode cX8_runScript 139 = .ok (.iconst (-1), 1) := by decide +kernel
theorem dX8_runScript_140 : decode cX8_runScript 140 = .ok (.ireturn, 1) := by decide +kernel
theorem dX8_turnRing_0 : decode cX8_turnRing 0 = .ok (.iload_n 1, 1) := by decide +kernel
theorem dX8_turnRing_1 : decode cX8_turnRing 1 = .ok (.iconst 4, 1) := by decide +kernel
theorem dX8_turnRing_2 : decode cX8_turnRing 2 = .ok (.if_icmp .ge 30, 3) := by decide +kernel
theorem dX8_turnRing_5 : decode cX8_turnRing 5 = .ok (.aload_n 0, 1) := by decide +kernel
theorem dX8_turnRing_6 : decode cX8_turnRing 6 = .ok (.iconst 0, 1) := by decide +kernel
theorem dX8_turnRing_7 : decode cX8_turnRing 7 = .ok (.iaload, 1) := by decide +kernel
theorem dX8_turnRing_8 : decode cX8_turnRing 8 = .ok (.bipush 16, 2) := by decide +kernel
theorem dX8_turnRing_10 : decode cX8_turnRing 10 = .ok (.if_icmp .ge 132, 3) := by decide +kernel
theorem dX8_turnRing_13 : decode cX8_turnRing 13 = .ok (.aload_n 0, 1) := by decide +kernel
theorem dX8_turnRing_14 : decode cX8_turnRing 14 = .ok (.iload_n 2, 1) := by decide +kernel
theorem dX8_turnRing_15 : decode cX8_turnRing 15 = .ok (.iconst 4, 1) := by decide +kernel
theorem dX8_turnRing_16 : decode cX8_turnRing 16 = .ok (.irem, 1) := by decide +kernel
theorem dX8_turnRing_17 : decode cX8_turnRing 17 = .ok (.iconst 1, 1) := by decide +kernel
theorem dX8_turnRing_18 : decode cX8_turnRing 18 = .ok (.iload_n 2, 1) := by decide +kernel
theorem dX8_turnRing_19 : decode cX8_turnRing 19 = .ok (.iconst 4, 1) := by decide +kernel
theorem dX8_turnRing_20 : decode cX8_turnRing 20 = .ok (.idiv, 1) := by decide +kernel
theorem dX8_turnRing_21 : decode cX8_turnRing 21 = .ok (.bipush 9, 2) := by decide +kernel
theorem dX8_turnRing_23 : decode cX8_turnRing 23 = .ok (.irem, 1) := by decide +kernel
theorem dX8_turnRing_24 : decode cX8_turnRing 24 = .ok (.iadd, 1) := by decide +kernel
theorem dX8_turnRing_25 : decode cX8_turnRing 25 = .ok (.invokestatic 133, 3) := by decide +kernel
theorem dX8_turnRing_28 : decode cX8_turnRing 28 = .ok (.pop, 1) := by decide +kernel
theorem dX8_turnRing_29 : decode cX8_turnRing 29 = .ok (.goto 113, 3) := by decide +kernel
theorem dX8_turnRing_32 : decode cX8_turnRing 32 = .ok (.iload_n 1, 1) := by decide +kernel
theorem dX8_turnRing_33 : decode cX8_turnRing 33 = .ok (.bipush 14, 2) := by decide +kernel
theorem dX8_turnRing_35 : decode cX8_turnRing 35 = .ok (.if_icmp .ne 35, 3) := by decide +kernel
theorem dX8_turnRing_38 : decode cX8_turnRing 38 = .ok (.iload_n 2, 1) := by decide +kernel
theorem dX8_turnRing_39 : decode cX8_turnRing 39 = .ok (.bipush 16, 2) := by decide +kernel
theorem dX8_turnRing_41 : decode cX8_turnRing 41 = .ok (.idiv, 1) := by decide +kernel
theorem dX8_turnRing_42 : decode cX8_turnRing 42 = .ok (.iconst 4, 1) := by decide +kernel
theorem dX8_turnRing_43 : decode cX8_turnRing 43 = .ok (.irem, 1) := by decide +kernel
theorem dX8_turnRing_44 : decode cX8_turnRing 44 = .ok (.ifCond .ne 26, 3) := by decide +kernel
theorem dX8_turnRing_47 : decode cX8_turnRing 47 = .ok (.aload_n 0, 1) := by decide +kernel
theorem dX8_turnRing_48 : decode cX8_turnRing 48 = .ok (.iload_n 2, 1) := by decide +kernel
theorem dX8_turnRing_49 : decode cX8_turnRing 49 = .ok (.bipush 16, 2) := by decide +kernel
theorem dX8_turnRing_51 : decode cX8_turnRing 51 = .ok (.irem, 1) := by decide +kernel
theorem dX8_turnRing_52 : decode cX8_turnRing 52 = .ok (.invokestatic 144, 3) := by decide +kernel
theorem dX8_turnRing_55 : decode cX8_turnRing 55 = .ok (.ifCond .eq 87, 3) := by decide +kernel
theorem dX8_turnRing_58 : decode cX8_turnRing 58 = .ok (.aload_n 0, 1) := by decide +kernel
theorem dX8_turnRing_59 : decode cX8_turnRing 59 = .ok (.iload_n 2, 1) := by decide +kernel
theorem dX8_turnRing_60 : decode cX8_turnRing 60 = .ok (.bipush 16, 2) := by decide +kernel
theorem dX8_turnRing_62 : decode cX8_turnRing 62 = .ok (.irem, 1) := by decide +kernel
theorem dX8_turnRing_63 : decode cX8_turnRing 63 = .ok (.invokestatic 147, 3) := by decide +kernel
theorem dX8_turnRing_66 : decode cX8_turnRing 66 = .ok (.pop, 1) := by decide +kernel
theorem dX8_turnRing_67 : decode cX8_turnRing 67 = .ok (.goto 75, 3) := by decide +kernel
theorem dX8_turnRing_70 : decode cX8_turnRing 70 = .ok (.iload_n 1, 1) := by decide +kernel
theorem dX8_turnRing_71 : decode cX8_turnRing 71 = .ok (.bipush 14, 2) := by decide +kernel
theorem dX8_turnRing_73 : decode cX8_turnRing 73 = .ok (.if_icmp .ne 47, 3) := by decide +kernel
theorem dX8_turnRing_76 : decode cX8_turnRing 76 = .ok (.aload_n 0, 1) := by decide +kernel
theorem dX8_turnRing_77 : decode cX8_turnRing 77 = .ok (.iload_n 2, 1) := by decide +kernel
theorem dX8_turnRing_78 : decode cX8_turnRing 78 = .ok (.bipush 16, 2) := by decide +kernel
theorem dX8_turnRing_80 : decode cX8_turnRing 80 = .ok (.irem, 1) := by decide +kernel
theorem dX8_turnRing_81 : decode cX8_turnRing 81 = .ok (.invokestatic 144, 3) := by decide +kernel
theorem dX8_turnRing_84 : decode cX8_turnRing 84 = .ok (.ifCond .eq 58, 3) := by decide +kernel
theorem dX8_turnRing_87 : decode cX8_turnRing 87 = .ok (.aload_n 0, 1) := by decide +kernel
theorem dX8_turnRing_88 : decode cX8_turnRing 88 = .ok (.iload_n 2, 1) := by decide +kernel
theorem dX8_turnRing_89 : decode cX8_turnRing 89 = .ok (.bipush 64, 2) := by decide +kernel
theorem dX8_turnRing_91 : decode cX8_turnRing 91 = .ok (.idiv, 1) := by decide +kernel
theorem dX8_turnRing_92 : decode cX8_turnRing 92 = .ok (.bipush 16, 2) := by decide +kernel
theorem dX8_turnRing_94 : decode cX8_turnRing 94 = .ok (.irem, 1) := by decide +kernel
theorem dX8_turnRing_95 : decode cX8_turnRing 95 = .ok (.invokestatic 144, 3) := by decide +kernel
theorem dX8_turnRing_98 : decode cX8_turnRing 98 = .ok (.ifCond .eq 44, 3) := by decide +kernel
theorem dX8_turnRing_101 : decode cX8_turnRing 101 = .ok (.aload_n 0, 1) := by decide +kernel
theorem dX8_turnRing_102 : decode cX8_turnRing 102 = .ok (.iload_n 2, 1) := by decide +kernel
theorem dX8_turnRing_103 : decode cX8_turnRing 103 = .ok (.bipush 16, 2) := by decide +kernel
theorem dX8_turnRing_105 : decode cX8_turnRing 105 = .ok (.irem, 1) := by decide +kernel
theorem dX8_turnRing_106 : decode cX8_turnRing 106 = .ok (.iload_n 2, 1) := by decide +kernel
theorem dX8_turnRing_107 : decode cX8_turnRing 107 = .ok (.bipush 64, 2) := by decide +kernel
theorem dX8_turnRing_109 : decode cX8_turnRing 109 = .ok (.idiv, 1) := by decide +kernel
theorem dX8_turnRing_110 : decode cX8_turnRing 110 = .ok (.bipush 16, 2) := by decide +kernel
theorem dX8_turnRing_112 : decode cX8_turnRing 112 = .ok (.irem, 1) := by decide +kernel
theorem dX8_turnRing_113 : decode cX8_turnRing 113 = .ok (.invokestatic 98, 3) := by decide +kernel
theorem dX8_turnRing_116 : decode cX8_turnRing 116 = .ok (.pop, 1) := by decide +kernel
theorem dX8_turnRing_117 : decode cX8_turnRing 117 = .ok (.goto 25, 3) := by decide +kernel
theorem dX8_turnRing_120 : decode cX8_turnRing 120 = .ok (.iload_n 2, 1) := by decide +kernel
theorem dX8_turnRing_121 : decode cX8_turnRing 121 = .ok (.iconst 2, 1) := by decide +kernel
theorem dX8_turnRing_122 : decode cX8_turnRing 122 = .ok (.idiv, 1) := by decide +kernel
theorem dX8_turnRing_123 : decode cX8_turnRing 123 = .ok (.iconst 2, 1) := by decide +kernel
theorem dX8_turnRing_124 : decode cX8_turnRing 124 = .ok (.irem, 1) := by decide +kernel
theorem dX8_turnRing_125 : decode cX8_turnRing 125 = .ok (.ifCond .ne 12, 3) := by decide +kernel
theorem dX8_turnRing_128 : decode cX8_turnRing 128 = .ok (.aload_n 0, 1) := by decide +kernel
theorem dX8_turnRing_129 : decode cX8_turnRing 129 = .ok (.iconst 4, 1) := by decide +kernel
theorem dX8_turnRing_130 : decode cX8_turnRing 130 = .ok (.iload_n 2, 1) := by decide +kernel
theorem dX8_turnRing_131 : decode cX8_turnRing 131 = .ok (.iconst 2, 1) := by decide +kernel
theorem dX8_turnRing_132 : decode cX8_turnRing 132 = .ok (.irem, 1) := by decide +kernel
theorem dX8_turnRing_133 : decode cX8_turnRing 133 = .ok (.iastore, 1) := by decide +kernel
theorem dX8_turnRing_134 : decode cX8_turnRing 134 = .ok (.goto 8, 3) := by decide +kernel
theorem dX8_turnRing_137 : decode cX8_turnRing 137 = .ok (.aload_n 0, 1) := by decide +kernel
theorem dX8_turnRing_138 : decode cX8_turnRing 138 = .ok (.invokestatic 166, 3) := by decide +kernel
theorem dX8_turnRing_141 : decode cX8_turnRing 141 = .ok (.pop, 1) := by decide +kernel
theorem dX8_turnRing_142 : decode cX8_turnRing 142 = .ok (.return_, 1) := by decide +kernel
theorem dX8_turnRuns_0 : decode cX8_turnRuns 0 = .ok (.iload_n 1, 1) := by decide +kernel
theorem dX8_turnRuns_1 : decode cX8_turnRuns 1 = .ok (.bipush 8, 2) := by decide +kernel
theorem dX8_turnRuns_3 : decode cX8_turnRuns 3 = .ok (.if_icmp .ge 44, 3) := by decide +kernel
theorem dX8_turnRuns_6 : decode cX8_turnRuns 6 = .ok (.aload_n 0, 1) := by decide +kernel
theorem dX8_turnRuns_7 : decode cX8_turnRuns 7 = .ok (.iconst 1, 1) := by decide +kernel
theorem dX8_turnRuns_8 : decode cX8_turnRuns 8 = .ok (.iload_n 2, 1) := by decide +kernel
theorem dX8_turnRuns_9 : decode cX8_turnRuns 9 = .ok (.bipush 15, 2) := by decide +kernel
theorem dX8_turnRuns_11 : decode cX8_turnRuns 11 = .ok (.irem, 1) := by decide +kernel
theorem dX8_turnRuns_12 : decode cX8_turnRuns 12 = .ok (.iadd, 1) := by decide +kernel
theorem dX8_turnRuns_13 : decode cX8_turnRuns 13 = .ok (.invokestatic 150, 3) := by decide +kernel
theorem dX8_turnRuns_16 : decode cX8_turnRuns 16 = .ok (.ifCond .eq 94, 3) := by decide +kernel
theorem dX8_turnRuns_19 : decode cX8_turnRuns 19 = .ok (.aload_n 0, 1) := by decide +kernel
theorem dX8_turnRuns_20 : decode cX8_turnRuns 20 = .ok (.iconst 1, 1) := by decide +kernel
theorem dX8_turnRuns_21 : decode cX8_turnRuns 21 = .ok (.iload_n 2, 1) := by decide +kernel
theorem dX8_turnRuns_22 : decode cX8_turnRuns 22 = .ok (.bipush 15, 2) := by decide +kernel
theorem dX8_turnRuns_24 : decode cX8_turnRuns 24 = .ok (.irem, 1) := by decide +kernel
theorem dX8_turnRuns_25 : decode cX8_turnRuns 25 = .ok (.iadd, 1) := by decide +kernel
theorem dX8_turnRuns_26 : decode cX8_turnRuns 26 = .ok (.iload_n 2, 1) := by decide +kernel
theorem dX8_turnRuns_27 : decode cX8_turnRuns 27 = .ok (.bipush 16, 2) := by decide +kernel
theorem dX8_turnRuns_29 : decode cX8_turnRuns 29 = .ok (.idiv, 1) := by decide +kernel
theorem dX8_turnRuns_30 : decode cX8_turnRuns 30 = .ok (.iconst 4, 1) := by decide +kernel
theorem dX8_turnRuns_31 : decode cX8_turnRuns 31 = .ok (.irem, 1) := by decide +kernel
theorem dX8_turnRuns_32 : decode cX8_turnRuns 32 = .ok (.ifCond .eq 7, 3) := by decide +kernel
theorem dX8_turnRuns_35 : decode cX8_turnRuns 35 = .ok (.iconst 1, 1) := by decide +kernel
theorem dX8_turnRuns_36 : decode cX8_turnRuns 36 = .ok (.goto 4, 3) := by decide +kernel
theorem dX8_turnRuns_39 : decode cX8_turnRuns 39 = .ok (.iconst 0, 1) := by decide +kernel
theorem dX8_turnRuns_40 : decode cX8_turnRuns 40 = .ok (.invokestatic 153, 3) := by decide +kernel
theorem dX8_turnRuns_43 : decode cX8_turnRuns 43 = .ok (.pop, 1) := by decide +kernel
theorem dX8_turnRuns_44 : decode cX8_turnRuns 44 = .ok (.goto 66, 3) := by decide +kernel
theorem dX8_turnRuns_47 : decode cX8_turnRuns 47 = .ok (.iload_n 1, 1) := by decide +kernel
theorem dX8_turnRuns_48 : decode cX8_turnRuns 48 = .ok (.bipush 13, 2) := by decide +kernel
theorem dX8_turnRuns_50 : decode cX8_turnRuns 50 = .ok (.if_icmp .ne 14, 3) := by decide +kernel
theorem dX8_turnRuns_53 : decode cX8_turnRuns 53 = .ok (.aload_n 0, 1) := by decide +kernel
theorem dX8_turnRuns_54 : decode cX8_turnRuns 54 = .ok (.iload_n 2, 1) := by decide +kernel
theorem dX8_turnRuns_55 : decode cX8_turnRuns 55 = .ok (.iconst 2, 1) := by decide +kernel
theorem dX8_turnRuns_56 : decode cX8_turnRuns 56 = .ok (.irem, 1) := by decide +kernel
theorem dX8_turnRuns_57 : decode cX8_turnRuns 57 = .ok (.invokestatic 163, 3) := by decide +kernel
theorem dX8_turnRuns_60 : decode cX8_turnRuns 60 = .ok (.pop, 1) := by decide +kernel
theorem dX8_turnRuns_61 : decode cX8_turnRuns 61 = .ok (.goto 49, 3) := by decide +kernel
theorem dX8_turnRuns_64 : decode cX8_turnRuns 64 = .ok (.aload_n 0, 1) := by decide +kernel
theorem dX8_turnRuns_65 : decode cX8_turnRuns 65 = .ok (.iload_n 2, 1) := by decide +kernel
theorem dX8_turnRuns_66 : decode cX8_turnRuns 66 = .ok (.bipush 16, 2) := by decide +kernel
theorem dX8_turnRuns_68 : decode cX8_turnRuns 68 = .ok (.irem, 1) := by decide +kernel
theorem dX8_turnRuns_69 : decode cX8_turnRuns 69 = .ok (.invokestatic 157, 3) := by decide +kernel
theorem dX8_turnRuns_72 : decode cX8_turnRuns 72 = .ok (.ifCond .eq 38, 3) := by decide +kernel
theorem dX8_turnRuns_75 : decode cX8_turnRuns 75 = .ok (.iload_n 1, 1) := by decide +kernel
theorem dX8_turnRuns_76 : decode cX8_turnRuns 76 = .ok (.bipush 10, 2) := by decide +kernel
theorem dX8_turnRuns_78 : decode cX8_turnRuns 78 = .ok (.if_icmp .ge 23, 3) := by decide +kernel
theorem dX8_turnRuns_81 : decode cX8_turnRuns 81 = .ok (.aload_n 0, 1) := by decide +kernel
theorem dX8_turnRuns_82 : decode cX8_turnRuns 82 = .ok (.iload_n 2, 1) := by decide +kernel
theorem dX8_turnRuns_83 : decode cX8_turnRuns 83 = .ok (.bipush 16, 2) := by decide +kernel
theorem dX8_turnRuns_85 : decode cX8_turnRuns 85 = .ok (.irem, 1) := by decide +kernel
theorem dX8_turnRuns_86 : decode cX8_turnRuns 86 = .ok (.iload_n 2, 1) := by decide +kernel
theorem dX8_turnRuns_87 : decode cX8_turnRuns 87 = .ok (.bipush 16, 2) := by decide +kernel
theorem dX8_turnRuns_89 : decode cX8_turnRuns 89 = .ok (.idiv, 1) := by decide +kernel
theorem dX8_turnRuns_90 : decode cX8_turnRuns 90 = .ok (.iconst 3, 1) := by decide +kernel
theorem dX8_turnRuns_91 : decode cX8_turnRuns 91 = .ok (.irem, 1) := by decide +kernel
theorem dX8_turnRuns_92 : decode cX8_turnRuns 92 = .ok (.iconst 1, 1) := by decide +kernel
theorem dX8_turnRuns_93 : decode cX8_turnRuns 93 = .ok (.isub, 1) := by decide +kernel
theorem dX8_turnRuns_94 : decode cX8_turnRuns 94 = .ok (.invokestatic 107, 3) := by decide +kernel
theorem dX8_turnRuns_97 : decode cX8_turnRuns 97 = .ok (.pop, 1) := by decide +kernel
theorem dX8_turnRuns_98 : decode cX8_turnRuns 98 = .ok (.goto 12, 3) := by decide +kernel
theorem dX8_turnRuns_101 : decode cX8_turnRuns 101 = .ok (.aload_n 0, 1) := by decide +kernel
theorem dX8_turnRuns_102 : decode cX8_turnRuns 102 = .ok (.iload_n 2, 1) := by decide +kernel
theorem dX8_turnRuns_103 : decode cX8_turnRuns 103 = .ok (.bipush 16, 2) := by decide +kernel
theorem dX8_turnRuns_105 : decode cX8_turnRuns 105 = .ok (.irem, 1) := by decide +kernel
theorem dX8_turnRuns_106 : decode cX8_turnRuns 106 = .ok (.invokestatic 160, 3) := by decide +kernel
theorem dX8_turnRuns_109 : decode cX8_turnRuns 109 = .ok (.pop, 1) := by decide +kernel
theorem dX8_turnRuns_110 : decode cX8_turnRuns 110 = .ok (.return_, 1) := by decide +kernel
theorem dX8_simulate_0 : decode cX8_simulate 0 = .ok (.aload_n 0, 1) := by decide +kernel
theorem dX8_simulate_1 : decode cX8_simulate 1 = .ok (.iload_n 3, 1) := by decide +kernel
theorem dX8_simulate_2 : decode cX8_simulate 2 = .ok (.i2l, 1) := by decide +kernel
theorem dX8_simulate_3 : decode cX8_simulate 3 = .ok (.lconst 1, 1) := by decide +kernel
theorem dX8_simulate_4 : decode cX8_simulate 4 = .ok (.ldc2_w 215, 3) := by decide +kernel
theorem dX8_simulate_7 : decode cX8_simulate 7 = .ok (.invokestatic 46, 3) := by decide +kernel
theorem dX8_simulate_10 : decode cX8_simulate 10 = .ok (.ifCond .eq 7, 3) := by decide +kernel
theorem dX8_simulate_13 : decode cX8_simulate 13 = .ok (.iconst 0, 1) := by decide +kernel
theorem dX8_simulate_14 : decode cX8_simulate 14 = .ok (.goto 4, 3) := by decide +kernel
theorem dX8_simulate_17 : decode cX8_simulate 17 = .ok (.iconst 1, 1) := by decide +kernel
theorem dX8_simulate_18 : decode cX8_simulate 18 = .ok (.invokevirtual 115, 3) := by decide +kernel
theorem dX8_simulate_21 : decode cX8_simulate 21 = .ok (.ifCond .eq 5, 3) := by decide +kernel
theorem dX8_simulate_24 : decode cX8_simulate 24 = .ok (.iconst 0, 1) := by decide +kernel
theorem dX8_simulate_25 : decode cX8_simulate 25 = .ok (.ireturn, 1) := by decide +kernel
theorem dX8_simulate_26 : decode cX8_simulate 26 = .ok (.aload_n 0, 1) := by decide +kernel
theorem dX8_simulate_27 : decode cX8_simulate 27 = .ok (.getfield 13, 3) := by decide +kernel
theorem dX8_simulate_30 : decode cX8_simulate 30 = .ok (.iconst 0, 1) := by decide +kernel
theorem dX8_simulate_31 : decode cX8_simulate 31 = .ok (.aload_n 0, 1) := by decide +kernel
theorem dX8_simulate_32 : decode cX8_simulate 32 = .ok (.getfield 16, 3) := by decide +kernel
theorem dX8_simulate_35 : decode cX8_simulate 35 = .ok (.iconst 0, 1) := by decide +kernel
theorem dX8_simulate_36 : decode cX8_simulate 36 = .ok (.invokestatic 175, 3) := by decide +kernel
theorem dX8_simulate_39 : decode cX8_simulate 39 = .ok (.lload_n 1, 1) := by decide +kernel
theorem dX8_simulate_40 : decode cX8_simulate 40 = .ok (.lstore 4, 2) := by decide +kernel
theorem dX8_simulate_42 : decode cX8_simulate 42 = .ok (.iconst 0, 1) := by decide +kernel
theorem dX8_simulate_43 : decode cX8_simulate 43 = .ok (.istore 6, 2) := by decide +kernel
theorem dX8_simulate_45 : decode cX8_simulate 45 = .ok (.iload 6, 2) := by decide +kernel
theorem dX8_simulate_47 : decode cX8_simulate 47 = .ok (.iload_n 3, 1) := by decide +kernel
theorem dX8_simulate_48 : decode cX8_simulate 48 = .ok (.if_icmp .ge 85, 3) := by decide +kernel
theorem dX8_simulate_51 : decode cX8_simulate 51 = .ok (.lload 4, 2) := by decide +kernel
theorem dX8_simulate_53 : decode cX8_simulate 53 = .ok (.ldc2_w 217, 3) := by decide +kernel
theorem dX8_simulate_56 : decode cX8_simulate 56 = .ok (.lmul, 1) := by decide +kernel
theorem dX8_simulate_57 : decode cX8_simulate 57 = .ok (.ldc2_w 219, 3) := by decide +kernel
theorem dX8_simulate_60 : decode cX8_simulate 60 = .ok (.ladd, 1) := by decide +kernel
theorem dX8_simulate_61 : decode cX8_simulate 61 = .ok (.lstore 4, 2) := by decide +kernel
theorem dX8_simulate_63 : decode cX8_simulate 63 = .ok (.lload 4, 2) := by decide +kernel
theorem dX8_simulate_65 : decode cX8_simulate 65 = .ok (.bipush 33, 2) := by decide +kernel
theorem dX8_simulate_67 : decode cX8_simulate 67 = .ok (.lushr, 1) := by decide +kernel
theorem dX8_simulate_68 : decode cX8_simulate 68 = .ok (.l2i, 1) := by decide +kernel
theorem dX8_simulate_69 : decode cX8_simulate 69 = .ok (.istore 7, 2) := by decide +kernel
theorem dX8_simulate_71 : decode cX8_simulate 71 = .ok (.iload 7, 2) := by decide +kernel
theorem dX8_simulate_73 : decode cX8_simulate 73 = .ok (.bipush 16, 2) := by decide +kernel
theorem dX8_simulate_75 : decode cX8_simulate 75 = .ok (.irem, 1) := by decide +kernel
theorem dX8_simulate_76 : decode cX8_simulate 76 = .ok (.iconst 4, 1) := by decide +kernel
theorem dX8_simulate_77 : decode cX8_simulate 77 = .ok (.if_icmp .lt 13, 3) := by decide +kernel
theorem dX8_simulate_80 : decode cX8_simulate 80 = .ok (.iload 7, 2) := by decide +kernel
theorem dX8_simulate_82 : decode cX8_simulate 82 = .ok (.bipush 16, 2) := by decide +kernel
theorem dX8_simulate_84 : decode cX8_simulate 84 = .ok (.irem, 1) := by decide +kernel
theorem dX8_simulate_85 : decode cX8_simulate 85 = .ok (.bipush 13, 2) := by decide +kernel
theorem dX8_simulate_87 : decode cX8_simulate 87 = .ok (.if_icmp .le 23, 3) := by decide +kernel
theorem dX8_simulate_90 : decode cX8_simulate 90 = .ok (.aload_n 0, 1) := by decide +kernel
theorem dX8_simulate_91 : decode cX8_simulate 91 = .ok (.getfield 16, 3) := by decide +kernel
theorem dX8_simulate_94 : decode cX8_simulate 94 = .ok (.iload 7, 2) := by decide +kernel
theorem dX8_simulate_96 : decode cX8_simulate 96 = .ok (.bipush 16, 2) := by decide +kernel
theorem dX8_simulate_98 : decode cX8_simulate 98 = .ok (.irem, 1) := by decide +kernel
theorem dX8_simulate_99 : decode cX8_simulate 99 = .ok (.iload 7, 2) := by decide +kernel
theorem dX8_simulate_101 : decode cX8_simulate 101 = .ok (.bipush 16, 2) := by decide +kernel
theorem dX8_simulate_103 : decode cX8_simulate 103 = .ok (.idiv, 1) := by decide +kernel
theorem dX8_simulate_104 : decode cX8_simulate 104 = .ok (.invokestatic 221, 3) := by decide +kernel
theorem dX8_simulate_107 : decode cX8_simulate 107 = .ok (.goto 20, 3) := by decide +kernel
theorem dX8_simulate_110 : decode cX8_simulate 110 = .ok (.aload_n 0, 1) := by decide +kernel
theorem dX8_simulate_111 : decode cX8_simulate 111 = .ok (.getfield 16, 3) := by decide +kernel
theorem dX8_simulate_114 : decode cX8_simulate 114 = .ok (.iload 7, 2) := by decide +kernel
theorem dX8_simulate_116 : decode cX8_simulate 116 = .ok (.bipush 16, 2) := by decide +kernel
theorem dX8_simulate_118 : decode cX8_simulate 118 = .ok (.irem, 1) := by decide +kernel
theorem dX8_simulate_119 : decode cX8_simulate 119 = .ok (.iload 7, 2) := by decide +kernel
theorem dX8_simulate_121 : decode cX8_simulate 121 = .ok (.bipush 16, 2) := by decide +kernel
theorem dX8_simulate_123 : decode cX8_simulate 123 = .ok (.idiv, 1) := by decide +kernel
theorem dX8_simulate_124 : decode cX8_simulate 124 = .ok (.invokestatic 225, 3) := by decide +kernel
theorem dX8_simulate_127 : decode cX8_simulate 127 = .ok (.iinc 6 1, 3) := by decide +kernel
theorem dX8_simulate_130 : decode cX8_simulate 130 = .ok (.goto (-85), 3) := by decide +kernel
theorem dX8_simulate_133 : decode cX8_simulate 133 = .ok (.aload_n 0, 1) := by decide +kernel
theorem dX8_simulate_134 : decode cX8_simulate 134 = .ok (.getfield 16, 3) := by decide +kernel
theorem dX8_simulate_137 : decode cX8_simulate 137 = .ok (.invokestatic 95, 3) := by decide +kernel
theorem dX8_simulate_140 : decode cX8_simulate 140 = .ok (.istore 6, 2) := by decide +kernel
theorem dX8_simulate_142 : decode cX8_simulate 142 = .ok (.sipush 10000, 3) := by decide +kernel
theorem dX8_simulate_145 : decode cX8_simulate 145 = .ok (.aload_n 0, 1) := by decide +kernel
theorem dX8_simulate_146 : decode cX8_simulate 146 = .ok (.getfield 16, 3) := by decide +kernel
theorem dX8_simulate_149 : decode cX8_simulate 149 = .ok (.iconst 0, 1) := by decide +kernel
theorem dX8_simulate_150 : decode cX8_simulate 150 = .ok (.iaload, 1) := by decide +kernel
theorem dX8_simulate_151 : decode cX8_simulate 151 = .ok (.imul, 1) := by decide +kernel
theorem dX8_simulate_152 : decode cX8_simulate 152 = .ok (.bipush 100, 2) := by decide +kernel
theorem dX8_simulate_154 : decode cX8_simulate 154 = .ok (.aload_n 0, 1) := by decide +kernel
theorem dX8_simulate_155 : decode cX8_simulate 155 = .ok (.getfield 16, 3) := by decide +kernel
theorem dX8_simulate_158 : decode cX8_simulate 158 = .ok (.invokestatic 56, 3) := by decide +kernel
theorem dX8_simulate_161 : decode cX8_simulate 161 = .ok (.imul, 1) := by decide +kernel
theorem dX8_simulate_162 : decode cX8_simulate 162 = .ok (.iadd, 1) := by decide +kernel
theorem dX8_simulate_163 : decode cX8_simulate 163 = .ok (.iload 6, 2) := by decide +kernel
theorem dX8_simulate_165 : decode cX8_simulate 165 = .ok (.bipush 99, 2) := by decide +kernel
theorem dX8_simulate_167 : decode cX8_simulate 167 = .ok (.if_icmp .le 8, 3) := by decide +kernel
theorem dX8_simulate_170 : decode cX8_simulate 170 = .ok (.bipush 99, 2) := by decide +kernel
theorem dX8_simulate_172 : decode cX8_simulate 172 = .ok (.goto 5, 3) := by decide +kernel
theorem dX8_simulate_175 : decode cX8_simulate 175 = .ok (.iload 6, 2) := by decide +kernel
theorem dX8_simulate_177 : decode cX8_simulate 177 = .ok (.iadd, 1) := by decide +kernel
theorem dX8_simulate_178 : decode cX8_simulate 178 = .ok (.ireturn, 1) := by decide +kernel
theorem dX8_save_0 : decode cX8_save 0 = .ok (.aload_n 0, 1) := by decide +kernel
theorem dX8_save_1 : decode cX8_save 1 = .ok (.iload_n 1, 1) := by decide +kernel
theorem dX8_save_2 : decode cX8_save 2 = .ok (.i2l, 1) := by decide +kernel
theorem dX8_save_3 : decode cX8_save 3 = .ok (.lconst 0, 1) := by decide +kernel
theorem dX8_save_4 : decode cX8_save 4 = .ok (.lconst 1, 1) := by decide +kernel
theorem dX8_save_5 : decode cX8_save 5 = .ok (.invokestatic 46, 3) := by decide +kernel
theorem dX8_save_8 : decode cX8_save 8 = .ok (.ifCond .eq 7, 3) := by decide +kernel
theorem dX8_save_11 : decode cX8_save 11 = .ok (.iconst 0, 1) := by decide +kernel
theorem dX8_save_12 : decode cX8_save 12 = .ok (.goto 4, 3) := by decide +kernel
theorem dX8_save_15 : decode cX8_save 15 = .ok (.iconst 1, 1) := by decide +kernel
theorem dX8_save_16 : decode cX8_save 16 = .ok (.invokevirtual 115, 3) := by decide +kernel
theorem dX8_save_19 : decode cX8_save 19 = .ok (.ifCond .eq 5, 3) := by decide +kernel
theorem dX8_save_22 : decode cX8_save 22 = .ok (.iconst 0, 1) := by decide +kernel
theorem dX8_save_23 : decode cX8_save 23 = .ok (.ireturn, 1) := by decide +kernel
theorem dX8_save_24 : decode cX8_save 24 = .ok (.aload_n 0, 1) := by decide +kernel
theorem dX8_save_25 : decode cX8_save 25 = .ok (.getfield 13, 3) := by decide +kernel
theorem dX8_save_28 : decode cX8_save 28 = .ok (.iconst 0, 1) := by decide +kernel
theorem dX8_save_29 : decode cX8_save 29 = .ok (.aload_n 0, 1) := by decide +kernel
theorem dX8_save_30 : decode cX8_save 30 = .ok (.getfield 22, 3) := by decide +kernel
theorem dX8_save_33 : decode cX8_save 33 = .ok (.bipush 54, 2) := by decide +kernel
theorem dX8_save_35 : decode cX8_save 35 = .ok (.iload_n 1, 1) := by decide +kernel
theorem dX8_save_36 : decode cX8_save 36 = .ok (.imul, 1) := by decide +kernel
theorem dX8_save_37 : decode cX8_save 37 = .ok (.invokestatic 175, 3) := by decide +kernel
theorem dX8_save_40 : decode cX8_save 40 = .ok (.aload_n 0, 1) := by decide +kernel
theorem dX8_save_41 : decode cX8_save 41 = .ok (.getfield 25, 3) := by decide +kernel
theorem dX8_save_44 : decode cX8_save 44 = .ok (.iload_n 1, 1) := by decide +kernel
theorem dX8_save_45 : decode cX8_save 45 = .ok (.iconst 1, 1) := by decide +kernel
theorem dX8_save_46 : decode cX8_save 46 = .ok (.bastore, 1) := by decide +kernel
theorem dX8_save_47 : decode cX8_save 47 = .ok (.aload_n 0, 1) := by decide +kernel
theorem dX8_save_48 : decode cX8_save 48 = .ok (.getfield 13, 3) := by decide +kernel
theorem dX8_save_51 : decode cX8_save 51 = .ok (.iconst 0, 1) := by decide +kernel
theorem dX8_save_52 : decode cX8_save 52 = .ok (.iaload, 1) := by decide +kernel
theorem dX8_save_53 : decode cX8_save 53 = .ok (.ireturn, 1) := by decide +kernel
theorem dX8_restore_0 : decode cX8_restore 0 = .ok (.aload_n 0, 1) := by decide +kernel
theorem dX8_restore_1 : decode cX8_restore 1 = .ok (.iload_n 1, 1) := by decide +kernel
theorem dX8_restore_2 : decode cX8_restore 2 = .ok (.i2l, 1) := by decide +kernel
theorem dX8_restore_3 : decode cX8_restore 3 = .ok (.lconst 0, 1) := by decide +kernel
theorem dX8_restore_4 : decode cX8_restore 4 = .ok (.lconst 1, 1) := by decide +kernel
theorem dX8_restore_5 : decode cX8_restore 5 = .ok (.invokestatic 46, 3) := by decide +kernel
theorem dX8_restore_8 : decode cX8_restore 8 = .ok (.ifCond .ne 7, 3) := by decide +kernel
theorem dX8_restore_11 : decode cX8_restore 11 = .ok (.iconst 1, 1) := by decide +kernel
theorem dX8_restore_12 : decode cX8_restore 12 = .ok (.goto 17, 3) := by decide +kernel
theorem dX8_restore_15 : decode cX8_restore 15 = .ok (.aload_n 0, 1) := by decide +kernel
theorem dX8_restore_16 : decode cX8_restore 16 = .ok (.getfield 25, 3) := by decide +kernel
theorem dX8_restore_19 : decode cX8_restore 19 = .ok (.iload_n 1, 1) := by decide +kernel
theorem dX8_restore_20 : decode cX8_restore 20 = .ok (.baload, 1) := by decide +kernel
theorem dX8_restore_21 : decode cX8_restore 21 = .ok (.ifCond .ne 7, 3) := by decide +kernel
theorem dX8_restore_24 : decode cX8_restore 24 = .ok (.iconst 2, 1) := by decide +kernel
theorem dX8_restore_25 : decode cX8_restore 25 = .ok (.goto 4, 3) := by decide +kernel
theorem dX8_restore_28 : decode cX8_restore 28 = .ok (.iconst 0, 1) := by decide +kernel
theorem dX8_restore_29 : decode cX8_restore 29 = .ok (.invokevirtual 115, 3) := by decide +kernel
theorem dX8_restore_32 : decode cX8_restore 32 = .ok (.ifCond .eq 5, 3) := by decide +kernel
theorem dX8_restore_35 : decode cX8_restore 35 = .ok (.iconst 0, 1) := by decide +kernel
theorem dX8_restore_36 : decode cX8_restore 36 = .ok (.ireturn, 1) := by decide +kernel
theorem dX8_restore_37 : decode cX8_restore 37 = .ok (.aload_n 0, 1) := by decide +kernel
theorem dX8_restore_38 : decode cX8_restore 38 = .ok (.getfield 22, 3) := by decide +kernel
theorem dX8_restore_41 : decode cX8_restore 41 = .ok (.bipush 54, 2) := by decide +kernel
theorem dX8_restore_43 : decode cX8_restore 43 = .ok (.iload_n 1, 1) := by decide +kernel
theorem dX8_restore_44 : decode cX8_restore 44 = .ok (.imul, 1) := by decide +kernel
theorem dX8_restore_45 : decode cX8_restore 45 = .ok (.aload_n 0, 1) := by decide +kernel
theorem dX8_restore_46 : decode cX8_restore 46 = .ok (.getfield 13, 3) := by decide +kernel
theorem dX8_restore_49 : decode cX8_restore 49 = .ok (.iconst 0, 1) := by decide +kernel
theorem dX8_restore_50 : decode cX8_restore 50 = .ok (.invokestatic 175, 3) := by decide +kernel
theorem dX8_restore_53 : decode cX8_restore 53 = .ok (.aload_n 0, 1) := by decide +kernel
theorem dX8_restore_54 : decode cX8_restore 54 = .ok (.iconst 0, 1) := by decide +kernel
theorem dX8_restore_55 : decode cX8_restore 55 = .ok (.putfield 179, 3) := by decide +kernel
theorem dX8_restore_58 : decode cX8_restore 58 = .ok (.aload_n 0, 1) := by decide +kernel
theorem dX8_restore_59 : decode cX8_restore 59 = .ok (.getfield 13, 3) := by decide +kernel
theorem dX8_restore_62 : decode cX8_restore 62 = .ok (.iconst 0, 1) := by decide +kernel
theorem dX8_restore_63 : decode cX8_restore 63 = .ok (.iaload, 1) := by decide +kernel
theorem dX8_restore_64 : decode cX8_restore 64 = .ok (.ireturn, 1) := by decide +kernel
end
section
theorem dL_append_0 : decode cL_append 0 = .ok (.aload_n 2, 1) := by decide +kernel
theorem dL_append_1 : decode cL_append 1 = .ok (.iconst 0, 1) := by decide +kernel
theorem dL_append_2 : decode cL_append 2 = .ok (.aload_n 0, 1) := by decide +kernel
theorem dL_append_3 : decode cL_append 3 = .ok (.iload_n 1, 1) := by decide +kernel
theorem dL_append_4 : decode cL_append 4 = .ok (.invokevirtual 7, 3) := by decide +kernel
theorem dL_append_7 : decode cL_append 7 = .ok (.i2l, 1) := by decide +kernel
theorem dL_append_8 : decode cL_append 8 = .ok (.lastore, 1) := by decide +kernel
theorem dL_append_9 : decode cL_append 9 = .ok (.goto 9, 3) := by decide +kernel
theorem dL_append_12 : decode cL_append 12 = .ok (.astore_n 3, 1) := by decide +kernel
theorem dL_append_13 : decode cL_append 13 = .ok (.iconst 1, 1) := by decide +kernel
theorem dL_append_14 : decode cL_append 14 = .ok (.ireturn, 1) := by decide +kernel
theorem dL_append_15 : decode cL_append 15 = .ok (.astore_n 3, 1) := by decide +kernel
theorem dL_append_16 : decode cL_append 16 = .ok (.iconst 2, 1) := by decide +kernel
theorem dL_append_17 : decode cL_append 17 = .ok (.ireturn, 1) := by decide +kernel
theorem dL_append_18 : decode cL_append 18 = .ok (.iconst 0, 1) := by decide +kernel
theorem dL_append_19 : decode cL_append 19 = .ok (.ireturn, 1) := by decide +kernel
theorem dL_load_0 : decode cL_load 0 = .ok (.aload_n 1, 1) := by decide +kernel
theorem dL_load_1 : decode cL_load 1 = .ok (.iconst 0, 1) := by decide +kernel
theorem dL_load_2 : decode cL_load 2 = .ok (.aload_n 0, 1) := by decide +kernel
theorem dL_load_3 : decode cL_load 3 = .ok (.invokevirtual 17, 3) := by decide +kernel
theorem dL_load_6 : decode cL_load 6 = .ok (.i2l, 1) := by decide +kernel
theorem dL_load_7 : decode cL_load 7 = .ok (.lastore, 1) := by decide +kernel
theorem dL_load_8 : decode cL_load 8 = .ok (.goto 6, 3) := by decide +kernel
theorem dL_load_11 : decode cL_load 11 = .ok (.astore_n 2, 1) := by decide +kernel
theorem dL_load_12 : decode cL_load 12 = .ok (.iconst 1, 1) := by decide +kernel
theorem dL_load_13 : decode cL_load 13 = .ok (.ireturn, 1) := by decide +kernel
theorem dL_load_14 : decode cL_load 14 = .ok (.iconst 0, 1) := by decide +kernel
theorem dL_load_15 : decode cL_load 15 = .ok (.ireturn, 1) := by decide +kernel
theorem dL_about_0 : decode cL_about 0 = .ok (.aload_n 2, 1) := by decide +kernel
theorem dL_about_1 : decode cL_about 1 = .ok (.iconst 0, 1) := by decide +kernel
theorem dL_about_2 : decode cL_about 2 = .ok (.aload_n 0, 1) := by decide +kernel
theorem dL_about_3 : decode cL_about 3 = .ok (.iload_n 1, 1) := by decide +kernel
theorem dL_about_4 : decode cL_about 4 = .ok (.invokevirtual 21, 3) := by decide +kernel
theorem dL_about_7 : decode cL_about 7 = .ok (.i2l, 1) := by decide +kernel
theorem dL_about_8 : decode cL_about 8 = .ok (.lastore, 1) := by decide +kernel
theorem dL_about_9 : decode cL_about 9 = .ok (.goto 6, 3) := by decide +kernel
theorem dL_about_12 : decode cL_about 12 = .ok (.astore_n 3, 1) := by decide +kernel
theorem dL_about_13 : decode cL_about 13 = .ok (.iconst 1, 1) := by decide +kernel
theorem dL_about_14 : decode cL_about 14 = .ok (.ireturn, 1) := by decide +kernel
theorem dL_about_15 : decode cL_about 15 = .ok (.iconst 0, 1) := by decide +kernel
theorem dL_about_16 : decode cL_about 16 = .ok (.ireturn, 1) := by decide +kernel
theorem dL_jewelOf_0 : decode cL_jewelOf 0 = .ok (.aload_n 3, 1) := by decide +kernel
theorem dL_jewelOf_1 : decode cL_jewelOf 1 = .ok (.iconst 0, 1) := by decide +kernel
theorem dL_jewelOf_2 : decode cL_jewelOf 2 = .ok (.aload_n 0, 1) := by decide +kernel
theorem dL_jewelOf_3 : decode cL_jewelOf 3 = .ok (.iload_n 1, 1) := by decide +kernel
theorem dL_jewelOf_4 : decode cL_jewelOf 4 = .ok (.iload_n 2, 1) := by decide +kernel
theorem dL_jewelOf_5 : decode cL_jewelOf 5 = .ok (.invokevirtual 24, 3) := by decide +kernel
theorem dL_jewelOf_8 : decode cL_jewelOf 8 = .ok (.i2l, 1) := by decide +kernel
theorem dL_jewelOf_9 : decode cL_jewelOf 9 = .ok (.lastore, 1) := by decide +kernel
theorem dL_jewelOf_10 : decode cL_jewelOf 10 = .ok (.goto 11, 3) := by decide +kernel
theorem dL_jewelOf_13 : decode cL_jewelOf 13 = .ok (.astore 4, 2) := by decide +kernel
theorem dL_jewelOf_15 : decode cL_jewelOf 15 = .ok (.iconst 1, 1) := by decide +kernel
theorem dL_jewelOf_16 : decode cL_jewelOf 16 = .ok (.ireturn, 1) := by decide +kernel
theorem dL_jewelOf_17 : decode cL_jewelOf 17 = .ok (.astore 4, 2) := by decide +kernel
theorem dL_jewelOf_19 : decode cL_jewelOf 19 = .ok (.iconst 2, 1) := by decide +kernel
theorem dL_jewelOf_20 : decode cL_jewelOf 20 = .ok (.ireturn, 1) := by decide +kernel
theorem dL_jewelOf_21 : decode cL_jewelOf 21 = .ok (.iconst 0, 1) := by decide +kernel
theorem dL_jewelOf_22 : decode cL_jewelOf 22 = .ok (.ireturn, 1) := by decide +kernel
theorem dL_placeOf_0 : decode cL_placeOf 0 = .ok (.aload_n 3, 1) := by decide +kernel
theorem dL_placeOf_1 : decode cL_placeOf 1 = .ok (.iconst 0, 1) := by decide +kernel
theorem dL_placeOf_2 : decode cL_placeOf 2 = .ok (.aload_n 0, 1) := by decide +kernel
theorem dL_placeOf_3 : decode cL_placeOf 3 = .ok (.iload_n 1, 1) := by decide +kernel
theorem dL_placeOf_4 : decode cL_placeOf 4 = .ok (.iload_n 2, 1) := by decide +kernel
theorem dL_placeOf_5 : decode cL_placeOf 5 = .ok (.invokevirtual 30, 3) := by decide +kernel
theorem dL_placeOf_8 : decode cL_placeOf 8 = .ok (.i2l, 1) := by decide +kernel
theorem dL_placeOf_9 : decode cL_placeOf 9 = .ok (.lastore, 1) := by decide +kernel
theorem dL_placeOf_10 : decode cL_placeOf 10 = .ok (.goto 11, 3) := by decide +kernel
theorem dL_placeOf_13 : decode cL_placeOf 13 = .ok (.astore 4, 2) := by decide +kernel
theorem dL_placeOf_15 : decode cL_placeOf 15 = .ok (.iconst 1, 1) := by decide +kernel
theorem dL_placeOf_16 : decode cL_placeOf 16 = .ok (.ireturn, 1) := by decide +kernel
theorem dL_placeOf_17 : decode cL_placeOf 17 = .ok (.astore 4, 2) := by decide +kernel
theorem dL_placeOf_19 : decode cL_placeOf 19 = .ok (.iconst 2, 1) := by decide +kernel
theorem dL_placeOf_20 : decode cL_placeOf 20 = .ok (.ireturn, 1) := by decide +kernel
theorem dL_placeOf_21 : decode cL_placeOf 21 = .ok (.iconst 0, 1) := by decide +kernel
theorem dL_placeOf_22 : decode cL_placeOf 22 = .ok (.ireturn, 1) := by decide +kernel
theorem dL_runOf_0 : decode cL_runOf 0 = .ok (.aload_n 3, 1) := by decide +kernel
theorem dL_runOf_1 : decode cL_runOf 1 = .ok (.iconst 0, 1) := by decide +kernel
theorem dL_runOf_2 : decode cL_runOf 2 = .ok (.aload_n 0, 1) := by decide +kernel
theorem dL_runOf_3 : decode cL_runOf 3 = .ok (.iload_n 1, 1) := by decide +kernel
theorem dL_runOf_4 : decode cL_runOf 4 = .ok (.iload_n 2, 1) := by decide +kernel
theorem dL_runOf_5 : decode cL_runOf 5 = .ok (.invokevirtual 33, 3) := by decide +kernel
theorem dL_runOf_8 : decode cL_runOf 8 = .ok (.i2l, 1) := by decide +kernel
theorem dL_runOf_9 : decode cL_runOf 9 = .ok (.lastore, 1) := by decide +kernel
theorem dL_runOf_10 : decode cL_runOf 10 = .ok (.goto 11, 3) := by decide +kernel
theorem dL_runOf_13 : decode cL_runOf 13 = .ok (.astore 4, 2) := by decide +kernel
theorem dL_runOf_15 : decode cL_runOf 15 = .ok (.iconst 1, 1) := by decide +kernel
theorem dL_runOf_16 : decode cL_runOf 16 = .ok (.ireturn, 1) := by decide +kernel
theorem dL_runOf_17 : decode cL_runOf 17 = .ok (.astore 4, 2) := by decide +kernel
theorem dL_runOf_19 : decode cL_runOf 19 = .ok (.iconst 2, 1) := by decide +kernel
theorem dL_runOf_20 : decode cL_runOf 20 = .ok (.ireturn, 1) := by decide +kernel
theorem dL_runOf_21 : decode cL_runOf 21 = .ok (.iconst 0, 1) := by decide +kernel
theorem dL_runOf_22 : decode cL_runOf 22 = .ok (.ireturn, 1) := by decide +kernel
theorem dL_has_0 : decode cL_has 0 = .ok (.aload_n 3, 1) := by decide +kernel
theorem dL_has_1 : decode cL_has 1 = .ok (.iconst 0, 1) := by decide +kernel
theorem dL_has_2 : decode cL_has 2 = .ok (.aload_n 0, 1) := by decide +kernel
theorem dL_has_3 : decode cL_has 3 = .ok (.iload_n 1, 1) := by decide +kernel
theorem dL_has_4 : decode cL_has 4 = .ok (.iload_n 2, 1) := by decide +kernel
theorem dL_has_5 : decode cL_has 5 = .ok (.invokevirtual 36, 3) := by decide +kernel
theorem dL_has_8 : decode cL_has 8 = .ok (.i2l, 1) := by decide +kernel
theorem dL_has_9 : decode cL_has 9 = .ok (.lastore, 1) := by decide +kernel
theorem dL_has_10 : decode cL_has 10 = .ok (.goto 7, 3) := by decide +kernel
theorem dL_has_13 : decode cL_has 13 = .ok (.astore 4, 2) := by decide +kernel
theorem dL_has_15 : decode cL_has 15 = .ok (.iconst 1, 1) := by decide +kernel
theorem dL_has_16 : decode cL_has 16 = .ok (.ireturn, 1) := by decide +kernel
theorem dL_has_17 : decode cL_has 17 = .ok (.iconst 0, 1) := by decide +kernel
theorem dL_has_18 : decode cL_has 18 = .ok (.ireturn, 1) := by decide +kernel
theorem dL_jewel_0 : decode cL_jewel 0 = .ok (.aload_n 3, 1) := by decide +kernel
theorem dL_jewel_1 : decode cL_jewel 1 = .ok (.iconst 0, 1) := by decide +kernel
theorem dL_jewel_2 : decode cL_jewel 2 = .ok (.aload_n 0, 1) := by decide +kernel
theorem dL_jewel_3 : decode cL_jewel 3 = .ok (.iload_n 1, 1) := by decide +kernel
theorem dL_jewel_4 : decode cL_jewel 4 = .ok (.iload_n 2, 1) := by decide +kernel
theorem dL_jewel_5 : decode cL_jewel 5 = .ok (.invokevirtual 39, 3) := by decide +kernel
theorem dL_jewel_8 : decode cL_jewel 8 = .ok (.i2l, 1) := by decide +kernel
theorem dL_jewel_9 : decode cL_jewel 9 = .ok (.lastore, 1) := by decide +kernel
theorem dL_jewel_10 : decode cL_jewel 10 = .ok (.goto 15, 3) := by decide +kernel
theorem dL_jewel_13 : decode cL_jewel 13 = .ok (.astore 4, 2) := by decide +kernel
theorem dL_jewel_15 : decode cL_jewel 15 = .ok (.iconst 1, 1) := by decide +kernel
theorem dL_jewel_16 : decode cL_jewel 16 = .ok (.ireturn, 1) := by decide +kernel
theorem dL_jewel_17 : decode cL_jewel 17 = .ok (.astore 4, 2) := by decide +kernel
theorem dL_jewel_19 : decode cL_jewel 19 = .ok (.iconst 2, 1) := by decide +kernel
theorem dL_jewel_20 : decode cL_jewel 20 = .ok (.ireturn, 1) := by decide +kernel
theorem dL_jewel_21 : decode cL_jewel 21 = .ok (.astore 4, 2) := by decide +kernel
theorem dL_jewel_23 : decode cL_jewel 23 = .ok (.iconst 3, 1) := by decide +kernel
theorem dL_jewel_24 : decode cL_jewel 24 = .ok (.ireturn, 1) := by decide +kernel
theorem dL_jewel_25 : decode cL_jewel 25 = .ok (.iconst 0, 1) := by decide +kernel
theorem dL_jewel_26 : decode cL_jewel 26 = .ok (.ireturn, 1) := by decide +kernel
theorem dL_exchange_0 : decode cL_exchange 0 = .ok (.aload_n 3, 1) := by decide +kernel
theorem dL_exchange_1 : decode cL_exchange 1 = .ok (.iconst 0, 1) := by decide +kernel
theorem dL_exchange_2 : decode cL_exchange 2 = .ok (.aload_n 0, 1) := by decide +kernel
theorem dL_exchange_3 : decode cL_exchange 3 = .ok (.iload_n 1, 1) := by decide +kernel
theorem dL_exchange_4 : decode cL_exchange 4 = .ok (.iload_n 2, 1) := by decide +kernel
theorem dL_exchange_5 : decode cL_exchange 5 = .ok (.invokevirtual 42, 3) := by decide +kernel
theorem dL_exchange_8 : decode cL_exchange 8 = .ok (.i2l, 1) := by decide +kernel
theorem dL_exchange_9 : decode cL_exchange 9 = .ok (.lastore, 1) := by decide +kernel
theorem dL_exchange_10 : decode cL_exchange 10 = .ok (.goto 7, 3) := by decide +kernel
theorem dL_exchange_13 : decode cL_exchange 13 = .ok (.astore 4, 2) := by decide +kernel
theorem dL_exchange_15 : decode cL_exchange 15 = .ok (.iconst 1, 1) := by decide +kernel
theorem dL_exchange_16 : decode cL_exchange 16 = .ok (.ireturn, 1) := by decide +kernel
theorem dL_exchange_17 : decode cL_exchange 17 = .ok (.iconst 0, 1) := by decide +kernel
theorem dL_exchange_18 : decode cL_exchange 18 = .ok (.ireturn, 1) := by decide +kernel
theorem dL_breakAt_0 : decode cL_breakAt 0 = .ok (.aload_n 2, 1) := by decide +kernel
theorem dL_breakAt_1 : decode cL_breakAt 1 = .ok (.iconst 0, 1) := by decide +kernel
theorem dL_breakAt_2 : decode cL_breakAt 2 = .ok (.aload_n 0, 1) := by decide +kernel
theorem dL_breakAt_3 : decode cL_breakAt 3 = .ok (.iload_n 1, 1) := by decide +kernel
theorem dL_breakAt_4 : decode cL_breakAt 4 = .ok (.invokevirtual 45, 3) := by decide +kernel
theorem dL_breakAt_7 : decode cL_breakAt 7 = .ok (.i2l, 1) := by decide +kernel
theorem dL_breakAt_8 : decode cL_breakAt 8 = .ok (.lastore, 1) := by decide +kernel
theorem dL_breakAt_9 : decode cL_breakAt 9 = .ok (.goto 6, 3) := by decide +kernel
theorem dL_breakAt_12 : decode cL_breakAt 12 = .ok (.astore_n 3, 1) := by decide +kernel
theorem dL_breakAt_13 : decode cL_breakAt 13 = .ok (.iconst 1, 1) := by decide +kernel
theorem dL_breakAt_14 : decode cL_breakAt 14 = .ok (.ireturn, 1) := by decide +kernel
theorem dL_breakAt_15 : decode cL_breakAt 15 = .ok (.iconst 0, 1) := by decide +kernel
theorem dL_breakAt_16 : decode cL_breakAt 16 = .ok (.ireturn, 1) := by decide +kernel
theorem dL_cut_0 : decode cL_cut 0 = .ok (.aload_n 3, 1) := by decide +kernel
theorem dL_cut_1 : decode cL_cut 1 = .ok (.iconst 0, 1) := by decide +kernel
theorem dL_cut_2 : decode cL_cut 2 = .ok (.aload_n 0, 1) := by decide +kernel
theorem dL_cut_3 : decode cL_cut 3 = .ok (.iload_n 1, 1) := by decide +kernel
theorem dL_cut_4 : decode cL_cut 4 = .ok (.iload_n 2, 1) := by decide +kernel
theorem dL_cut_5 : decode cL_cut 5 = .ok (.invokevirtual 48, 3) := by decide +kernel
theorem dL_cut_8 : decode cL_cut 8 = .ok (.i2l, 1) := by decide +kernel
theorem dL_cut_9 : decode cL_cut 9 = .ok (.lastore, 1) := by decide +kernel
theorem dL_cut_10 : decode cL_cut 10 = .ok (.goto 7, 3) := by decide +kernel
theorem dL_cut_13 : decode cL_cut 13 = .ok (.astore 4, 2) := by decide +kernel
theorem dL_cut_15 : decode cL_cut 15 = .ok (.iconst 1, 1) := by decide +kernel
theorem dL_cut_16 : decode cL_cut 16 = .ok (.ireturn, 1) := by decide +kernel
theorem dL_cut_17 : decode cL_cut 17 = .ok (.iconst 0, 1) := by decide +kernel
theorem dL_cut_18 : decode cL_cut 18 = .ok (.ireturn, 1) := by decide +kernel
theorem dL_give_0 : decode cL_give 0 = .ok (.aload_n 3, 1) := by decide +kernel
theorem dL_give_1 : decode cL_give 1 = .ok (.iconst 0, 1) := by decide +kernel
theorem dL_give_2 : decode cL_give 2 = .ok (.aload_n 0, 1) := by decide +kernel
theorem dL_give_3 : decode cL_give 3 = .ok (.iload_n 1, 1) := by decide +kernel
theorem dL_give_4 : decode cL_give 4 = .ok (.iload_n 2, 1) := by decide +kernel
theorem dL_give_5 : decode cL_give 5 = .ok (.invokevirtual 52, 3) := by decide +kernel
theorem dL_give_8 : decode cL_give 8 = .ok (.i2l, 1) := by decide +kernel
theorem dL_give_9 : decode cL_give 9 = .ok (.lastore, 1) := by decide +kernel
theorem dL_give_10 : decode cL_give 10 = .ok (.goto 11, 3) := by decide +kernel
theorem dL_give_13 : decode cL_give 13 = .ok (.astore 4, 2) := by decide +kernel
theorem dL_give_15 : decode cL_give 15 = .ok (.iconst 1, 1) := by decide +kernel
theorem dL_give_16 : decode cL_give 16 = .ok (.ireturn, 1) := by decide +kernel
theorem dL_give_17 : decode cL_give 17 = .ok (.astore 4, 2) := by decide +kernel
theorem dL_give_19 : decode cL_give 19 = .ok (.iconst 2, 1) := by decide +kernel
theorem dL_give_20 : decode cL_give 20 = .ok (.ireturn, 1) := by decide +kernel
theorem dL_give_21 : decode cL_give 21 = .ok (.iconst 0, 1) := by decide +kernel
theorem dL_give_22 : decode cL_give 22 = .ok (.ireturn, 1) := by decide +kernel
theorem dL_take_0 : decode cL_take 0 = .ok (.aload_n 2, 1) := by decide +kernel
theorem dL_take_1 : decode cL_take 1 = .ok (.iconst 0, 1) := by decide +kernel
theorem dL_take_2 : decode cL_take 2 = .ok (.aload_n 0, 1) := by decide +kernel
theorem dL_take_3 : decode cL_take 3 = .ok (.iload_n 1, 1) := by decide +kernel
theorem dL_take_4 : decode cL_take 4 = .ok (.invokevirtual 55, 3) := by decide +kernel
theorem dL_take_7 : decode cL_take 7 = .ok (.i2l, 1) := by decide +kernel
theorem dL_take_8 : decode cL_take 8 = .ok (.lastore, 1) := by decide +kernel
theorem dL_take_9 : decode cL_take 9 = .ok (.goto 6, 3) := by decide +kernel
theorem dL_take_12 : decode cL_take 12 = .ok (.astore_n 3, 1) := by decide +kernel
theorem dL_take_13 : decode cL_take 13 = .ok (.iconst 1, 1) := by decide +kernel
theorem dL_take_14 : decode cL_take 14 = .ok (.ireturn, 1) := by decide +kernel
theorem dL_take_15 : decode cL_take 15 = .ok (.iconst 0, 1) := by decide +kernel
theorem dL_take_16 : decode cL_take 16 = .ok (.ireturn, 1) := by decide +kernel
theorem dL_deal_0 : decode cL_deal 0 = .ok (.aload_n 2, 1) := by decide +kernel
theorem dL_deal_1 : decode cL_deal 1 = .ok (.iconst 0, 1) := by decide +kernel
theorem dL_deal_2 : decode cL_deal 2 = .ok (.aload_n 0, 1) := by decide +kernel
theorem dL_deal_3 : decode cL_deal 3 = .ok (.iload_n 1, 1) := by decide +kernel
theorem dL_deal_4 : decode cL_deal 4 = .ok (.invokevirtual 58, 3) := by decide +kernel
theorem dL_deal_7 : decode cL_deal 7 = .ok (.i2l, 1) := by decide +kernel
theorem dL_deal_8 : decode cL_deal 8 = .ok (.lastore, 1) := by decide +kernel
theorem dL_deal_9 : decode cL_deal 9 = .ok (.goto 6, 3) := by decide +kernel
theorem dL_deal_12 : decode cL_deal 12 = .ok (.astore_n 3, 1) := by decide +kernel
theorem dL_deal_13 : decode cL_deal 13 = .ok (.iconst 1, 1) := by decide +kernel
theorem dL_deal_14 : decode cL_deal 14 = .ok (.ireturn, 1) := by decide +kernel
theorem dL_deal_15 : decode cL_deal 15 = .ok (.iconst 0, 1) := by decide +kernel
theorem dL_deal_16 : decode cL_deal 16 = .ok (.ireturn, 1) := by decide +kernel
theorem dL_divide_0 : decode cL_divide 0 = .ok (.aload_n 1, 1) := by decide +kernel
theorem dL_divide_1 : decode cL_divide 1 = .ok (.iconst 0, 1) := by decide +kernel
theorem dL_divide_2 : decode cL_divide 2 = .ok (.aload_n 0, 1) := by decide +kernel
theorem dL_divide_3 : decode cL_divide 3 = .ok (.invokevirtual 61, 3) := by decide +kernel
theorem dL_divide_6 : decode cL_divide 6 = .ok (.i2l, 1) := by decide +kernel
theorem dL_divide_7 : decode cL_divide 7 = .ok (.lastore, 1) := by decide +kernel
theorem dL_divide_8 : decode cL_divide 8 = .ok (.goto 6, 3) := by decide +kernel
theorem dL_divide_11 : decode cL_divide 11 = .ok (.astore_n 2, 1) := by decide +kernel
theorem dL_divide_12 : decode cL_divide 12 = .ok (.iconst 1, 1) := by decide +kernel
theorem dL_divide_13 : decode cL_divide 13 = .ok (.ireturn, 1) := by decide +kernel
theorem dL_divide_14 : decode cL_divide 14 = .ok (.iconst 0, 1) := by decide +kernel
theorem dL_divide_15 : decode cL_divide 15 = .ok (.ireturn, 1) := by decide +kernel
theorem dL_set_0 : decode cL_set 0 = .ok (.aload_n 2, 1) := by decide +kernel
theorem dL_set_1 : decode cL_set 1 = .ok (.iconst 0, 1) := by decide +kernel
theorem dL_set_2 : decode cL_set 2 = .ok (.aload_n 0, 1) := by decide +kernel
theorem dL_set_3 : decode cL_set 3 = .ok (.iload_n 1, 1) := by decide +kernel
theorem dL_set_4 : decode cL_set 4 = .ok (.invokevirtual 64, 3) := by decide +kernel
theorem dL_set_7 : decode cL_set 7 = .ok (.i2l, 1) := by decide +kernel
theorem dL_set_8 : decode cL_set 8 = .ok (.lastore, 1) := by decide +kernel
theorem dL_set_9 : decode cL_set 9 = .ok (.goto 6, 3) := by decide +kernel
theorem dL_set_12 : decode cL_set 12 = .ok (.astore_n 3, 1) := by decide +kernel
theorem dL_set_13 : decode cL_set 13 = .ok (.iconst 1, 1) := by decide +kernel
theorem dL_set_14 : decode cL_set 14 = .ok (.ireturn, 1) := by decide +kernel
theorem dL_set_15 : decode cL_set 15 = .ok (.iconst 0, 1) := by decide +kernel
theorem dL_set_16 : decode cL_set 16 = .ok (.ireturn, 1) := by decide +kernel
theorem dL_undo_0 : decode cL_undo 0 = .ok (.aload_n 1, 1) := by decide +kernel
theorem dL_undo_1 : decode cL_undo 1 = .ok (.iconst 0, 1) := by decide +kernel
theorem dL_undo_2 : decode cL_undo 2 = .ok (.aload_n 0, 1) := by decide +kernel
theorem dL_undo_3 : decode cL_undo 3 = .ok (.invokevirtual 67, 3) := by decide +kernel
theorem dL_undo_6 : decode cL_undo 6 = .ok (.i2l, 1) := by decide +kernel
theorem dL_undo_7 : decode cL_undo 7 = .ok (.lastore, 1) := by decide +kernel
theorem dL_undo_8 : decode cL_undo 8 = .ok (.goto 6, 3) := by decide +kernel
theorem dL_undo_11 : decode cL_undo 11 = .ok (.astore_n 2, 1) := by decide +kernel
theorem dL_undo_12 : decode cL_undo 12 = .ok (.iconst 1, 1) := by decide +kernel
theorem dL_undo_13 : decode cL_undo 13 = .ok (.ireturn, 1) := by decide +kernel
theorem dL_undo_14 : decode cL_undo 14 = .ok (.iconst 0, 1) := by decide +kernel
theorem dL_undo_15 : decode cL_undo 15 = .ok (.ireturn, 1) := by decide +kernel
theorem dL_fewest_0 : decode cL_fewest 0 = .ok (.aload_n 2, 1) := by decide +kernel
theorem dL_fewest_1 : decode cL_fewest 1 = .ok (.iconst 0, 1) := by decide +kernel
theorem dL_fewest_2 : decode cL_fewest 2 = .ok (.aload_n 0, 1) := by decide +kernel
theorem dL_fewest_3 : decode cL_fewest 3 = .ok (.iload_n 1, 1) := by decide +kernel
theorem dL_fewest_4 : decode cL_fewest 4 = .ok (.invokevirtual 70, 3) := by decide +kernel
theorem dL_fewest_7 : decode cL_fewest 7 = .ok (.i2l, 1) := by decide +kernel
theorem dL_fewest_8 : decode cL_fewest 8 = .ok (.lastore, 1) := by decide +kernel
theorem dL_fewest_9 : decode cL_fewest 9 = .ok (.goto 6, 3) := by decide +kernel
theorem dL_fewest_12 : decode cL_fewest 12 = .ok (.astore_n 3, 1) := by decide +kernel
theorem dL_fewest_13 : decode cL_fewest 13 = .ok (.iconst 1, 1) := by decide +kernel
theorem dL_fewest_14 : decode cL_fewest 14 = .ok (.ireturn, 1) := by decide +kernel
theorem dL_fewest_15 : decode cL_fewest 15 = .ok (.iconst 0, 1) := by decide +kernel
theorem dL_fewest_16 : decode cL_fewest 16 = .ok (.ireturn, 1) := by decide +kernel
theorem dL_divided_0 : decode cL_divided 0 = .ok (.aload_n 2, 1) := by decide +kernel
theorem dL_divided_1 : decode cL_divided 1 = .ok (.iconst 0, 1) := by decide +kernel
theorem dL_divided_2 : decode cL_divided 2 = .ok (.aload_n 0, 1) := by decide +kernel
theorem dL_divided_3 : decode cL_divided 3 = .ok (.iload_n 1, 1) := by decide +kernel
theorem dL_divided_4 : decode cL_divided 4 = .ok (.invokevirtual 73, 3) := by decide +kernel
theorem dL_divided_7 : decode cL_divided 7 = .ok (.i2l, 1) := by decide +kernel
theorem dL_divided_8 : decode cL_divided 8 = .ok (.lastore, 1) := by decide +kernel
theorem dL_divided_9 : decode cL_divided 9 = .ok (.goto 6, 3) := by decide +kernel
theorem dL_divided_12 : decode cL_divided 12 = .ok (.astore_n 3, 1) := by decide +kernel
theorem dL_divided_13 : decode cL_divided 13 = .ok (.iconst 1, 1) := by decide +kernel
theorem dL_divided_14 : decode cL_divided 14 = .ok (.ireturn, 1) := by decide +kernel
theorem dL_divided_15 : decode cL_divided 15 = .ok (.iconst 0, 1) := by decide +kernel
theorem dL_divided_16 : decode cL_divided 16 = .ok (.ireturn, 1) := by decide +kernel
theorem dL_leastGap_0 : decode cL_leastGap 0 = .ok (.aload_n 2, 1) := by decide +kernel
theorem dL_leastGap_1 : decode cL_leastGap 1 = .ok (.iconst 0, 1) := by decide +kernel
theorem dL_leastGap_2 : decode cL_leastGap 2 = .ok (.aload_n 0, 1) := by decide +kernel
theorem dL_leastGap_3 : decode cL_leastGap 3 = .ok (.iload_n 1, 1) := by decide +kernel
theorem dL_leastGap_4 : decode cL_leastGap 4 = .ok (.invokevirtual 76, 3) := by decide +kernel
theorem dL_leastGap_7 : decode cL_leastGap 7 = .ok (.i2l, 1) := by decide +kernel
theorem dL_leastGap_8 : decode cL_leastGap 8 = .ok (.lastore, 1) := by decide +kernel
theorem dL_leastGap_9 : decode cL_leastGap 9 = .ok (.goto 6, 3) := by decide +kernel
theorem dL_leastGap_12 : decode cL_leastGap 12 = .ok (.astore_n 3, 1) := by decide +kernel
theorem dL_leastGap_13 : decode cL_leastGap 13 = .ok (.iconst 1, 1) := by decide +kernel
theorem dL_leastGap_14 : decode cL_leastGap 14 = .ok (.ireturn, 1) := by decide +kernel
theorem dL_leastGap_15 : decode cL_leastGap 15 = .ok (.iconst 0, 1) := by decide +kernel
theorem dL_leastGap_16 : decode cL_leastGap 16 = .ok (.ireturn, 1) := by decide +kernel
theorem dL_ifGiven_0 : decode cL_ifGiven 0 = .ok (.aload_n 3, 1) := by decide +kernel
theorem dL_ifGiven_1 : decode cL_ifGiven 1 = .ok (.iconst 0, 1) := by decide +kernel
theorem dL_ifGiven_2 : decode cL_ifGiven 2 = .ok (.aload_n 0, 1) := by decide +kernel
theorem dL_ifGiven_3 : decode cL_ifGiven 3 = .ok (.iload_n 1, 1) := by decide +kernel
theorem dL_ifGiven_4 : decode cL_ifGiven 4 = .ok (.iload_n 2, 1) := by decide +kernel
theorem dL_ifGiven_5 : decode cL_ifGiven 5 = .ok (.invokevirtual 79, 3) := by decide +kernel
theorem dL_ifGiven_8 : decode cL_ifGiven 8 = .ok (.i2l, 1) := by decide +kernel
theorem dL_ifGiven_9 : decode cL_ifGiven 9 = .ok (.lastore, 1) := by decide +kernel
theorem dL_ifGiven_10 : decode cL_ifGiven 10 = .ok (.goto 11, 3) := by decide +kernel
theorem dL_ifGiven_13 : decode cL_ifGiven 13 = .ok (.astore 4, 2) := by decide +kernel
theorem dL_ifGiven_15 : decode cL_ifGiven 15 = .ok (.iconst 1, 1) := by decide +kernel
theorem dL_ifGiven_16 : decode cL_ifGiven 16 = .ok (.ireturn, 1) := by decide +kernel
theorem dL_ifGiven_17 : decode cL_ifGiven 17 = .ok (.astore 4, 2) := by decide +kernel
theorem dL_ifGiven_19 : decode cL_ifGiven 19 = .ok (.iconst 2, 1) := by decide +kernel
theorem dL_ifGiven_20 : decode cL_ifGiven 20 = .ok (.ireturn, 1) := by decide +kernel
theorem dL_ifGiven_21 : decode cL_ifGiven 21 = .ok (.iconst 0, 1) := by decide +kernel
theorem dL_ifGiven_22 : decode cL_ifGiven 22 = .ok (.ireturn, 1) := by decide +kernel
theorem dL_runScript_0 : decode cL_runScript 0 = .ok (.aload 4, 2) := by decide +kernel
theorem dL_runScript_2 : decode cL_runScript 2 = .ok (.iconst 0, 1) := by decide +kernel
theorem dL_runScript_3 : decode cL_runScript 3 = .ok (.aload_n 0, 1) := by decide +kernel
theorem dL_runScript_4 : decode cL_runScript 4 = .ok (.iload_n 1, 1) := by decide +kernel
theorem dL_runScript_5 : decode cL_runScript 5 = .ok (.lload_n 2, 1) := by decide +kernel
theorem dL_runScript_6 : decode cL_runScript 6 = .ok (.invokevirtual 82, 3) := by decide +kernel
theorem dL_runScript_9 : decode cL_runScript 9 = .ok (.i2l, 1) := by decide +kernel
theorem dL_runScript_10 : decode cL_runScript 10 = .ok (.lastore, 1) := by decide +kernel
theorem dL_runScript_11 : decode cL_runScript 11 = .ok (.goto 7, 3) := by decide +kernel
theorem dL_runScript_14 : decode cL_runScript 14 = .ok (.astore 5, 2) := by decide +kernel
theorem dL_runScript_16 : decode cL_runScript 16 = .ok (.iconst 1, 1) := by decide +kernel
theorem dL_runScript_17 : decode cL_runScript 17 = .ok (.ireturn, 1) := by decide +kernel
theorem dL_runScript_18 : decode cL_runScript 18 = .ok (.iconst 0, 1) := by decide +kernel
theorem dL_runScript_19 : decode cL_runScript 19 = .ok (.ireturn, 1) := by decide +kernel
theorem dL_simulate_0 : decode cL_simulate 0 = .ok (.aload 4, 2) := by decide +kernel
theorem dL_simulate_2 : decode cL_simulate 2 = .ok (.iconst 0, 1) := by decide +kernel
theorem dL_simulate_3 : decode cL_simulate 3 = .ok (.aload_n 0, 1) := by decide +kernel
theorem dL_simulate_4 : decode cL_simulate 4 = .ok (.lload_n 1, 1) := by decide +kernel
theorem dL_simulate_5 : decode cL_simulate 5 = .ok (.iload_n 3, 1) := by decide +kernel
theorem dL_simulate_6 : decode cL_simulate 6 = .ok (.invokevirtual 86, 3) := by decide +kernel
theorem dL_simulate_9 : decode cL_simulate 9 = .ok (.i2l, 1) := by decide +kernel
theorem dL_simulate_10 : decode cL_simulate 10 = .ok (.lastore, 1) := by decide +kernel
theorem dL_simulate_11 : decode cL_simulate 11 = .ok (.goto 7, 3) := by decide +kernel
theorem dL_simulate_14 : decode cL_simulate 14 = .ok (.astore 5, 2) := by decide +kernel
theorem dL_simulate_16 : decode cL_simulate 16 = .ok (.iconst 1, 1) := by decide +kernel
theorem dL_simulate_17 : decode cL_simulate 17 = .ok (.ireturn, 1) := by decide +kernel
theorem dL_simulate_18 : decode cL_simulate 18 = .ok (.iconst 0, 1) := by decide +kernel
theorem dL_simulate_19 : decode cL_simulate 19 = .ok (.ireturn, 1) := by decide +kernel
theorem dL_save_0 : decode cL_save 0 = .ok (.aload_n 2, 1) := by decide +kernel
theorem dL_save_1 : decode cL_save 1 = .ok (.iconst 0, 1) := by decide +kernel
theorem dL_save_2 : decode cL_save 2 = .ok (.aload_n 0, 1) := by decide +kernel
theorem dL_save_3 : decode cL_save 3 = .ok (.iload_n 1, 1) := by decide +kernel
theorem dL_save_4 : decode cL_save 4 = .ok (.invokevirtual 90, 3) := by decide +kernel
theorem dL_save_7 : decode cL_save 7 = .ok (.i2l, 1) := by decide +kernel
theorem dL_save_8 : decode cL_save 8 = .ok (.lastore, 1) := by decide +kernel
theorem dL_save_9 : decode cL_save 9 = .ok (.goto 6, 3) := by decide +kernel
theorem dL_save_12 : decode cL_save 12 = .ok (.astore_n 3, 1) := by decide +kernel
theorem dL_save_13 : decode cL_save 13 = .ok (.iconst 1, 1) := by decide +kernel
theorem dL_save_14 : decode cL_save 14 = .ok (.ireturn, 1) := by decide +kernel
theorem dL_save_15 : decode cL_save 15 = .ok (.iconst 0, 1) := by decide +kernel
theorem dL_save_16 : decode cL_save 16 = .ok (.ireturn, 1) := by decide +kernel
theorem dL_restore_0 : decode cL_restore 0 = .ok (.aload_n 2, 1) := by decide +kernel
theorem dL_restore_1 : decode cL_restore 1 = .ok (.iconst 0, 1) := by decide +kernel
theorem dL_restore_2 : decode cL_restore 2 = .ok (.aload_n 0, 1) := by decide +kernel
theorem dL_restore_3 : decode cL_restore 3 = .ok (.iload_n 1, 1) := by decide +kernel
theorem dL_restore_4 : decode cL_restore 4 = .ok (.invokevirtual 93, 3) := by decide +kernel
theorem dL_restore_7 : decode cL_restore 7 = .ok (.i2l, 1) := by decide +kernel
theorem dL_restore_8 : decode cL_restore 8 = .ok (.lastore, 1) := by decide +kernel
theorem dL_restore_9 : decode cL_restore 9 = .ok (.goto 9, 3) := by decide +kernel
theorem dL_restore_12 : decode cL_restore 12 = .ok (.astore_n 3, 1) := by decide +kernel
theorem dL_restore_13 : decode cL_restore 13 = .ok (.iconst 1, 1) := by decide +kernel
theorem dL_restore_14 : decode cL_restore 14 = .ok (.ireturn, 1) := by decide +kernel
theorem dL_restore_15 : decode cL_restore 15 = .ok (.astore_n 3, 1) := by decide +kernel
theorem dL_restore_16 : decode cL_restore 16 = .ok (.iconst 2, 1) := by decide +kernel
theorem dL_restore_17 : decode cL_restore 17 = .ok (.ireturn, 1) := by decide +kernel
theorem dL_restore_18 : decode cL_restore 18 = .ok (.iconst 0, 1) := by decide +kernel
theorem dL_restore_19 : decode cL_restore 19 = .ok (.ireturn, 1) := by decide +kernel
theorem dL_law_0 : decode cL_law 0 = .ok (.new 8, 3) := by decide +kernel
theorem dL_law_3 : decode cL_law 3 = .ok (.dup, 1) := by decide +kernel
theorem dL_law_4 : decode cL_law 4 = .ok (.invokespecial 96, 3) := by decide +kernel
theorem dL_law_7 : decode cL_law 7 = .ok (.astore_n 1, 1) := by decide +kernel
theorem dL_law_8 : decode cL_law 8 = .ok (.new 97, 3) := by decide +kernel
theorem dL_law_11 : decode cL_law 11 = .ok (.dup, 1) := by decide +kernel
theorem dL_law_12 : decode cL_law 12 = .ok (.invokespecial 99, 3) := by decide +kernel
theorem dL_law_15 : decode cL_law 15 = .ok (.astore_n 2, 1) := by decide +kernel
theorem dL_law_16 : decode cL_law 16 = .ok (.iconst 1, 1) := by decide +kernel
theorem dL_law_17 : decode cL_law 17 = .ok (.newarray .long, 2) := by decide +kernel
theorem dL_law_19 : decode cL_law 19 = .ok (.astore_n 3, 1) := by decide +kernel
theorem dL_law_20 : decode cL_law 20 = .ok (.iconst 0, 1) := by decide +kernel
theorem dL_law_21 : decode cL_law 21 = .ok (.istore 4, 2) := by decide +kernel
theorem dL_law_23 : decode cL_law 23 = .ok (.iload 4, 2) := by decide +kernel
theorem dL_law_25 : decode cL_law 25 = .ok (.aload_n 0, 1) := by decide +kernel
theorem dL_law_26 : decode cL_law 26 = .ok (.arraylength, 1) := by decide +kernel
theorem dL_law_27 : decode cL_law 27 = .ok (.iconst 4, 1) := by decide +kernel
theorem dL_law_28 : decode cL_law 28 = .ok (.isub, 1) := by decide +kernel
theorem dL_law_29 : decode cL_law 29 = .ok (.if_icmp .gt 1790, 3) := by decide +kernel
theorem dL_law_32 : decode cL_law 32 = .ok (.aload_n 0, 1) := by decide +kernel
theorem dL_law_33 : decode cL_law 33 = .ok (.iload 4, 2) := by decide +kernel
theorem dL_law_35 : decode cL_law 35 = .ok (.iaload, 1) := by decide +kernel
theorem dL_law_36 : decode cL_law 36 = .ok (.bipush 31, 2) := by decide +kernel
theorem dL_law_38 : decode cL_law 38 = .ok (.iand, 1) := by decide +kernel
theorem dL_law_39 : decode cL_law 39 = .ok (.tableswitch 1774 0 29 #[133, 189, 202, 215, 259, 315, 383, 451, 519, 587, 655, 723, 779, 792, 876, 944, 1000, 1056, 1100, 1156, 1200, 1256, 1312, 1368, 1381, 1394, 1462, 1562, 1662, 1718], 133) := by decide +kernel
theorem dL_law_172 : decode cL_law 172 = .ok (.aload_n 1, 1) := by decide +kernel
theorem dL_law_173 : decode cL_law 173 = .ok (.aload_n 0, 1) := by decide +kernel
theorem dL_law_174 : decode cL_law 174 = .ok (.iload 4, 2) := by decide +kernel
theorem dL_law_176 : decode cL_law 176 = .ok (.iconst 1, 1) := by decide +kernel
theorem dL_law_177 : decode cL_law 177 = .ok (.iadd, 1) := by decide +kernel
theorem dL_law_178 : decode cL_law 178 = .ok (.iaload, 1) := by decide +kernel
theorem dL_law_179 : decode cL_law 179 = .ok (.aload_n 3, 1) := by decide +kernel
theorem dL_law_180 : decode cL_law 180 = .ok (.invokestatic 100, 3) := by decide +kernel
theorem dL_law_183 : decode cL_law 183 = .ok (.istore 5, 2) := by decide +kernel
theorem dL_law_185 : decode cL_law 185 = .ok (.aload_n 2, 1) := by decide +kernel
theorem dL_law_186 : decode cL_law 186 = .ok (.aload_n 0, 1) := by decide +kernel
theorem dL_law_187 : decode cL_law 187 = .ok (.iload 4, 2) := by decide +kernel
theorem dL_law_189 : decode cL_law 189 = .ok (.iconst 1, 1) := by decide +kernel
theorem dL_law_190 : decode cL_law 190 = .ok (.iadd, 1) := by decide +kernel
theorem dL_law_191 : decode cL_law 191 = .ok (.iaload, 1) := by decide +kernel
theorem dL_law_192 : decode cL_law 192 = .ok (.invokevirtual 105, 3) := by decide +kernel
theorem dL_law_195 : decode cL_law 195 = .ok (.istore 6, 2) := by decide +kernel
theorem dL_law_197 : decode cL_law 197 = .ok (.aload_n 2, 1) := by decide +kernel
theorem dL_law_198 : decode cL_law 198 = .ok (.invokevirtual 106, 3) := by decide +kernel
theorem dL_law_201 : decode cL_law 201 = .ok (.iload 5, 2) := by decide +kernel
theorem dL_law_203 : decode cL_law 203 = .ok (.if_icmp .eq 5, 3) := by decide +kernel
theorem dL_law_206 : decode cL_law 206 = .ok (.iconst 0, 1) := by decide +kernel
theorem dL_law_207 : decode cL_law 207 = .ok (.ireturn, 1) := by decide +kernel
theorem dL_law_208 : decode cL_law 208 = .ok (.iload 5, 2) := by decide +kernel
theorem dL_law_210 : decode cL_law 210 = .ok (.ifCond .ne 15, 3) := by decide +kernel
theorem dL_law_213 : decode cL_law 213 = .ok (.aload_n 3, 1) := by decide +kernel
theorem dL_law_214 : decode cL_law 214 = .ok (.iconst 0, 1) := by decide +kernel
theorem dL_law_215 : decode cL_law 215 = .ok (.laload, 1) := by decide +kernel
theorem dL_law_216 : decode cL_law 216 = .ok (.iload 6, 2) := by decide +kernel
theorem dL_law_218 : decode cL_law 218 = .ok (.i2l, 1) := by decide +kernel
theorem dL_law_219 : decode cL_law 219 = .ok (.lcmp, 1) := by decide +kernel
theorem dL_law_220 : decode cL_law 220 = .ok (.ifCond .eq 5, 3) := by decide +kernel
theorem dL_law_223 : decode cL_law 223 = .ok (.iconst 0, 1) := by decide +kernel
theorem dL_law_224 : decode cL_law 224 = .ok (.ireturn, 1) := by decide +kernel
theorem dL_law_225 : decode cL_law 225 = .ok (.goto 1588, 3) := by decide +kernel
theorem dL_law_228 : decode cL_law 228 = .ok (.aload_n 1, 1) := by decide +kernel
theorem dL_law_229 : decode cL_law 229 = .ok (.invokevirtual 109, 3) := by decide +kernel
theorem dL_law_232 : decode cL_law 232 = .ok (.aload_n 2, 1) := by decide +kernel
theorem dL_law_233 : decode cL_law 233 = .ok (.invokevirtual 112, 3) := by decide +kernel
theorem dL_law_236 : decode cL_law 236 = .ok (.if_icmp .eq 1577, 3) := by decide +kernel
theorem dL_law_239 : decode cL_law 239 = .ok (.iconst 0, 1) := by decide +kernel
theorem dL_law_240 : decode cL_law 240 = .ok (.ireturn, 1) := by decide +kernel
theorem dL_law_241 : decode cL_law 241 = .ok (.aload_n 1, 1) := by decide +kernel
theorem dL_law_242 : decode cL_law 242 = .ok (.invokevirtual 113, 3) := by decide +kernel
theorem dL_law_245 : decode cL_law 245 = .ok (.aload_n 2, 1) := by decide +kernel
theorem dL_law_246 : decode cL_law 246 = .ok (.invokevirtual 116, 3) := by decide +kernel
theorem dL_law_249 : decode cL_law 249 = .ok (.if_icmp .eq 1564, 3) := by decide +kernel
theorem dL_law_252 : decode cL_law 252 = .ok (.iconst 0, 1) := by decide +kernel
theorem dL_law_253 : decode cL_law 253 = .ok (.ireturn, 1) := by decide +kernel
theorem dL_law_254 : decode cL_law 254 = .ok (.aload_n 1, 1) := by decide +kernel
theorem dL_law_255 : decode cL_law 255 = .ok (.aload_n 3, 1) := by decide +kernel
theorem dL_law_256 : decode cL_law 256 = .ok (.invokestatic 117, 3) := by decide +kernel
theorem dL_law_259 : decode cL_law 259 = .ok (.istore 5, 2) := by decide +kernel
theorem dL_law_261 : decode cL_law 261 = .ok (.aload_n 2, 1) := by decide +kernel
theorem dL_law_262 : decode cL_law 262 = .ok (.invokevirtual 120, 3) := by decide +kernel
theorem dL_law_265 : decode cL_law 265 = .ok (.istore 6, 2) := by decide +kernel
theorem dL_law_267 : decode cL_law 267 = .ok (.aload_n 2, 1) := by decide +kernel
theorem dL_law_268 : decode cL_law 268 = .ok (.invokevirtual 106, 3) := by decide +kernel
theorem dL_law_271 : decode cL_law 271 = .ok (.iload 5, 2) := by decide +kernel
theorem dL_law_273 : decode cL_law 273 = .ok (.if_icmp .eq 5, 3) := by decide +kernel
theorem dL_law_276 : decode cL_law 276 = .ok (.iconst 0, 1) := by decide +kernel
theorem dL_law_277 : decode cL_law 277 = .ok (.ireturn, 1) := by decide +kernel
theorem dL_law_278 : decode cL_law 278 = .ok (.iload 5, 2) := by decide +kernel
theorem dL_law_280 : decode cL_law 280 = .ok (.ifCond .ne 15, 3) := by decide +kernel
theorem dL_law_283 : decode cL_law 283 = .ok (.aload_n 3, 1) := by decide +kernel
theorem dL_law_284 : decode cL_law 284 = .ok (.iconst 0, 1) := by decide +kernel
theorem dL_law_285 : decode cL_law 285 = .ok (.laload, 1) := by decide +kernel
theorem dL_law_286 : decode cL_law 286 = .ok (.iload 6, 2) := by decide +kernel
theorem dL_law_288 : decode cL_law 288 = .ok (.i2l, 1) := by decide +kernel
theorem dL_law_289 : decode cL_law 289 = .ok (.lcmp, 1) := by decide +kernel
theorem dL_law_290 : decode cL_law 290 = .ok (.ifCond .eq 5, 3) := by decide +kernel
theorem dL_law_293 : decode cL_law 293 = .ok (.iconst 0, 1) := by decide +kernel
theorem dL_law_294 : decode cL_law 294 = .ok (.ireturn, 1) := by decide +kernel
theorem dL_law_295 : decode cL_law 295 = .ok (.goto 1518, 3) := by decide +kernel
theorem dL_law_298 : decode cL_law 298 = .ok (.aload_n 1, 1) := by decide +kernel
theorem dL_law_299 : decode cL_law 299 = .ok (.aload_n 0, 1) := by decide +kernel
theorem dL_law_300 : decode cL_law 300 = .ok (.iload 4, 2) := by decide +kernel
theorem dL_law_302 : decode cL_law 302 = .ok (.iconst 1, 1) := by decide +kernel
theorem dL_law_303 : decode cL_law 303 = .ok (.iadd, 1) := by decide +kernel
theorem dL_law_304 : decode cL_law 304 = .ok (.iaload, 1) := by decide +kernel
theorem dL_law_305 : decode cL_law 305 = .ok (.aload_n 3, 1) := by decide +kernel
theorem dL_law_306 : decode cL_law 306 = .ok (.invokestatic 121, 3) := by decide +kernel
theorem dL_law_309 : decode cL_law 309 = .ok (.istore 5, 2) := by decide +kernel
theorem dL_law_311 : decode cL_law 311 = .ok (.aload_n 2, 1) := by decide +kernel
theorem dL_law_312 : decode cL_law 312 = .ok (.aload_n 0, 1) := by decide +kernel
theorem dL_law_313 : decode cL_law 313 = .ok (.iload 4, 2) := by decide +kernel
theorem dL_law_315 : decode cL_law 315 = .ok (.iconst 1, 1) := by decide +kernel
theorem dL_law_316 : decode cL_law 316 = .ok (.iadd, 1) := by decide +kernel
theorem dL_law_317 : decode cL_law 317 = .ok (.iaload, 1) := by decide +kernel
theorem dL_law_318 : decode cL_law 318 = .ok (.invokevirtual 123, 3) := by decide +kernel
theorem dL_law_321 : decode cL_law 321 = .ok (.istore 6, 2) := by decide +kernel
theorem dL_law_323 : decode cL_law 323 = .ok (.aload_n 2, 1) := by decide +kernel
theorem dL_law_324 : decode cL_law 324 = .ok (.invokevirtual 106, 3) := by decide +kernel
theorem dL_law_327 : decode cL_law 327 = .ok (.iload 5, 2) := by decide +kernel
theorem dL_law_329 : decode cL_law 329 = .ok (.if_icmp .eq 5, 3) := by decide +kernel
theorem dL_law_332 : decode cL_law 332 = .ok (.iconst 0, 1) := by decide +kernel
theorem dL_law_333 : decode cL_law 333 = .ok (.ireturn, 1) := by decide +kernel
theorem dL_law_334 : decode cL_law 334 = .ok (.iload 5, 2) := by decide +kernel
theorem dL_law_336 : decode cL_law 336 = .ok (.ifCond .ne 15, 3) := by decide +kernel
theorem dL_law_339 : decode cL_law 339 = .ok (.aload_n 3, 1) := by decide +kernel
theorem dL_law_340 : decode cL_law 340 = .ok (.iconst 0, 1) := by decide +kernel
theorem dL_law_341 : decode cL_law 341 = .ok (.laload, 1) := by decide +kernel
theorem dL_law_342 : decode cL_law 342 = .ok (.iload 6, 2) := by decide +kernel
theorem dL_law_344 : decode cL_law 344 = .ok (.i2l, 1) := by decide +kernel
theorem dL_law_345 : decode cL_law 345 = .ok (.lcmp, 1) := by decide +kernel
theorem dL_law_346 : decode cL_law 346 = .ok (.ifCond .eq 5, 3) := by decide +kernel
theorem dL_law_349 : decode cL_law 349 = .ok (.iconst 0, 1) := by decide +kernel
theorem dL_law_350 : decode cL_law 350 = .ok (.ireturn, 1) := by decide +kernel
theorem dL_law_351 : decode cL_law 351 = .ok (.goto 1462, 3) := by decide +kernel
theorem dL_law_354 : decode cL_law 354 = .ok (.aload_n 1, 1) := by decide +kernel
theorem dL_law_355 : decode cL_law 355 = .ok (.aload_n 0, 1) := by decide +kernel
theorem dL_law_356 : decode cL_law 356 = .ok (.iload 4, 2) := by decide +kernel
theorem dL_law_358 : decode cL_law 358 = .ok (.iconst 1, 1) := by decide +kernel
theorem dL_law_359 : decode cL_law 359 = .ok (.iadd, 1) := by decide +kernel
theorem dL_law_360 : decode cL_law 360 = .ok (.iaload, 1) := by decide +kernel
theorem dL_law_361 : decode cL_law 361 = .ok (.aload_n 0, 1) := by decide +kernel
theorem dL_law_362 : decode cL_law 362 = .ok (.iload 4, 2) := by decide +kernel
theorem dL_law_364 : decode cL_law 364 = .ok (.iconst 2, 1) := by decide +kernel
theorem dL_law_365 : decode cL_law 365 = .ok (.iadd, 1) := by decide +kernel
theorem dL_law_366 : decode cL_law 366 = .ok (.iaload, 1) := by decide +kernel
theorem dL_law_367 : decode cL_law 367 = .ok (.aload_n 3, 1) := by decide +kernel
theorem dL_law_368 : decode cL_law 368 = .ok (.invokestatic 124, 3) := by decide +kernel
theorem dL_law_371 : decode cL_law 371 = .ok (.istore 5, 2) := by decide +kernel
theorem dL_law_373 : decode cL_law 373 = .ok (.aload_n 2, 1) := by decide +kernel
theorem dL_law_374 : decode cL_law 374 = .ok (.aload_n 0, 1) := by decide +kernel
theorem dL_law_375 : decode cL_law 375 = .ok (.iload 4, 2) := by decide +kernel
theorem dL_law_377 : decode cL_law 377 = .ok (.iconst 1, 1) := by decide +kernel
theorem dL_law_378 : decode cL_law 378 = .ok (.iadd, 1) := by decide +kernel
theorem dL_law_379 : decode cL_law 379 = .ok (.iaload, 1) := by decide +kernel
theorem dL_law_380 : decode cL_law 380 = .ok (.aload_n 0, 1) := by decide +kernel
theorem dL_law_381 : decode cL_law 381 = .ok (.iload 4, 2) := by decide +kernel
theorem dL_law_383 : decode cL_law 383 = .ok (.iconst 2, 1) := by decide +kernel
theorem dL_law_384 : decode cL_law 384 = .ok (.iadd, 1) := by decide +kernel
theorem dL_law_385 : decode cL_law 385 = .ok (.iaload, 1) := by decide +kernel
theorem dL_law_386 : decode cL_law 386 = .ok (.invokevirtual 127, 3) := by decide +kernel
theorem dL_law_389 : decode cL_law 389 = .ok (.istore 6, 2) := by decide +kernel
theorem dL_law_391 : decode cL_law 391 = .ok (.aload_n 2, 1) := by decide +kernel
theorem dL_law_392 : decode cL_law 392 = .ok (.invokevirtual 106, 3) := by decide +kernel
theorem dL_law_395 : decode cL_law 395 = .ok (.iload 5, 2) := by decide +kernel
theorem dL_law_397 : decode cL_law 397 = .ok (.if_icmp .eq 5, 3) := by decide +kernel
theorem dL_law_400 : decode cL_law 400 = .ok (.iconst 0, 1) := by decide +kernel
theorem dL_law_401 : decode cL_law 401 = .ok (.ireturn, 1) := by decide +kernel
theorem dL_law_402 : decode cL_law 402 = .ok (.iload 5, 2) := by decide +kernel
theorem dL_law_404 : decode cL_law 404 = .ok (.ifCond .ne 15, 3) := by decide +kernel
theorem dL_law_407 : decode cL_law 407 = .ok (.aload_n 3, 1) := by decide +kernel
theorem dL_law_408 : decode cL_law 408 = .ok (.iconst 0, 1) := by decide +kernel
theorem dL_law_409 : decode cL_law 409 = .ok (.laload, 1) := by decide +kernel
theorem dL_law_410 : decode cL_law 410 = .ok (.iload 6, 2) := by decide +kernel
theorem dL_law_412 : decode cL_law 412 = .ok (.i2l, 1) := by decide +kernel
theorem dL_law_413 : decode cL_law 413 = .ok (.lcmp, 1) := by decide +kernel
theorem dL_law_414 : decode cL_law 414 = .ok (.ifCond .eq 5, 3) := by decide +kernel
theorem dL_law_417 : decode cL_law 417 = .ok (.iconst 0, 1) := by decide +kernel
theorem dL_law_418 : decode cL_law 418 = .ok (.ireturn, 1) := by decide +kernel
theorem dL_law_419 : decode cL_law 419 = .ok (.goto 1394, 3) := by decide +kernel
theorem dL_law_422 : decode cL_law 422 = .ok (.aload_n 1, 1) := by decide +kernel
theorem dL_law_423 : decode cL_law 423 = .ok (.aload_n 0, 1) := by decide +kernel
theorem dL_law_424 : decode cL_law 424 = .ok (.iload 4, 2) := by decide +kernel
theorem dL_law_426 : decode cL_law 426 = .ok (.iconst 1, 1) := by decide +kernel
theorem dL_law_427 : decode cL_law 427 = .ok (.iadd, 1) := by decide +kernel
theorem dL_law_428 : decode cL_law 428 = .ok (.iaload, 1) := by decide +kernel
theorem dL_law_429 : decode cL_law 429 = .ok (.aload_n 0, 1) := by decide +kernel
theorem dL_law_430 : decode cL_law 430 = .ok (.iload 4, 2) := by decide +kernel
theorem dL_law_432 : decode cL_law 432 = .ok (.iconst 2, 1) := by decide +kernel
theorem dL_law_433 : decode cL_law 433 = .ok (.iadd, 1) := by decide +kernel
theorem dL_law_434 : decode cL_law 434 = .ok (.iaload, 1) := by decide +kernel
theorem dL_law_435 : decode cL_law 435 = .ok (.aload_n 3, 1) := by decide +kernel
theorem dL_law_436 : decode cL_law 436 = .ok (.invokestatic 128, 3) := by decide +kernel
theorem dL_law_439 : decode cL_law 439 = .ok (.istore 5, 2) := by decide +kernel
theorem dL_law_441 : decode cL_law 441 = .ok (.aload_n 2, 1) := by decide +kernel
theorem dL_law_442 : decode cL_law 442 = .ok (.aload_n 0, 1) := by decide +kernel
theorem dL_law_443 : decode cL_law 443 = .ok (.iload 4, 2) := by decide +kernel
theorem dL_law_445 : decode cL_law 445 = .ok (.iconst 1, 1) := by decide +kernel
theorem dL_law_446 : decode cL_law 446 = .ok (.iadd, 1) := by decide +kernel
theorem dL_law_447 : decode cL_law 447 = .ok (.iaload, 1) := by decide +kernel
theorem dL_law_448 : decode cL_law 448 = .ok (.aload_n 0, 1) := by decide +kernel
theorem dL_law_449 : decode cL_law 449 = .ok (.iload 4, 2) := by decide +kernel
theorem dL_law_451 : decode cL_law 451 = .ok (.iconst 2, 1) := by decide +kernel
theorem dL_law_452 : decode cL_law 452 = .ok (.iadd, 1) := by decide +kernel
theorem dL_law_453 : decode cL_law 453 = .ok (.iaload, 1) := by decide +kernel
theorem dL_law_454 : decode cL_law 454 = .ok (.invokevirtual 130, 3) := by decide +kernel
theorem dL_law_457 : decode cL_law 457 = .ok (.istore 6, 2) := by decide +kernel
theorem dL_law_459 : decode cL_law 459 = .ok (.aload_n 2, 1) := by decide +kernel
theorem dL_law_460 : decode cL_law 460 = .ok (.invokevirtual 106, 3) := by decide +kernel
theorem dL_law_463 : decode cL_law 463 = .ok (.iload 5, 2) := by decide +kernel
theorem dL_law_465 : decode cL_law 465 = .ok (.if_icmp .eq 5, 3) := by decide +kernel
theorem dL_law_468 : decode cL_law 468 = .ok (.iconst 0, 1) := by decide +kernel
theorem dL_law_469 : decode cL_law 469 = .ok (.ireturn, 1) := by decide +kernel
theorem dL_law_470 : decode cL_law 470 = .ok (.iload 5, 2) := by decide +kernel
theorem dL_law_472 : decode cL_law 472 = .ok (.ifCond .ne 15, 3) := by decide +kernel
theorem dL_law_475 : decode cL_law 475 = .ok (.aload_n 3, 1) := by decide +kernel
theorem dL_law_476 : decode cL_law 476 = .ok (.iconst 0, 1) := by decide +kernel
theorem dL_law_477 : decode cL_law 477 = .ok (.laload, 1) := by decide +kernel
theorem dL_law_478 : decode cL_law 478 = .ok (.iload 6, 2) := by decide +kernel
theorem dL_law_480 : decode cL_law 480 = .ok (.i2l, 1) := by decide +kernel
theorem dL_law_481 : decode cL_law 481 = .ok (.lcmp, 1) := by decide +kernel
theorem dL_law_482 : decode cL_law 482 = .ok (.ifCond .eq 5, 3) := by decide +kernel
theorem dL_law_485 : decode cL_law 485 = .ok (.iconst 0, 1) := by decide +kernel
theorem dL_law_486 : decode cL_law 486 = .ok (.ireturn, 1) := by decide +kernel
theorem dL_law_487 : decode cL_law 487 = .ok (.goto 1326, 3) := by decide +kernel
theorem dL_law_490 : decode cL_law 490 = .ok (.aload_n 1, 1) := by decide +kernel
theorem dL_law_491 : decode cL_law 491 = .ok (.aload_n 0, 1) := by decide +kernel
theorem dL_law_492 : decode cL_law 492 = .ok (.iload 4, 2) := by decide +kernel
theorem dL_law_494 : decode cL_law 494 = .ok (.iconst 1, 1) := by decide +kernel
theorem dL_law_495 : decode cL_law 495 = .ok (.iadd, 1) := by decide +kernel
theorem dL_law_496 : decode cL_law 496 = .ok (.iaload, 1) := by decide +kernel
theorem dL_law_497 : decode cL_law 497 = .ok (.aload_n 0, 1) := by decide +kernel
theorem dL_law_498 : decode cL_law 498 = .ok (.iload 4, 2) := by decide +kernel
theorem dL_law_500 : decode cL_law 500 = .ok (.iconst 2, 1) := by decide +kernel
theorem dL_law_501 : decode cL_law 501 = .ok (.iadd, 1) := by decide +kernel
theorem dL_law_502 : decode cL_law 502 = .ok (.iaload, 1) := by decide +kernel
theorem dL_law_503 : decode cL_law 503 = .ok (.aload_n 3, 1) := by decide +kernel
theorem dL_law_504 : decode cL_law 504 = .ok (.invokestatic 131, 3) := by decide +kernel
theorem dL_law_507 : decode cL_law 507 = .ok (.istore 5, 2) := by decide +kernel
theorem dL_law_509 : decode cL_law 509 = .ok (.aload_n 2, 1) := by decide +kernel
theorem dL_law_510 : decode cL_law 510 = .ok (.aload_n 0, 1) := by decide +kernel
theorem dL_law_511 : decode cL_law 511 = .ok (.iload 4, 2) := by decide +kernel
theorem dL_law_513 : decode cL_law 513 = .ok (.iconst 1, 1) := by decide +kernel
theorem dL_law_514 : decode cL_law 514 = .ok (.iadd, 1) := by decide +kernel
theorem dL_law_515 : decode cL_law 515 = .ok (.iaload, 1) := by decide +kernel
theorem dL_law_516 : decode cL_law 516 = .ok (.aload_n 0, 1) := by decide +kernel
theorem dL_law_517 : decode cL_law 517 = .ok (.iload 4, 2) := by decide +kernel
theorem dL_law_519 : decode cL_law 519 = .ok (.iconst 2, 1) := by decide +kernel
theorem dL_law_520 : decode cL_law 520 = .ok (.iadd, 1) := by decide +kernel
theorem dL_law_521 : decode cL_law 521 = .ok (.iaload, 1) := by decide +kernel
theorem dL_law_522 : decode cL_law 522 = .ok (.invokevirtual 133, 3) := by decide +kernel
theorem dL_law_525 : decode cL_law 525 = .ok (.istore 6, 2) := by decide +kernel
theorem dL_law_527 : decode cL_law 527 = .ok (.aload_n 2, 1) := by decide +kernel
theorem dL_law_528 : decode cL_law 528 = .ok (.invokevirtual 106, 3) := by decide +kernel
theorem dL_law_531 : decode cL_law 531 = .ok (.iload 5, 2) := by decide +kernel
theorem dL_law_533 : decode cL_law 533 = .ok (.if_icmp .eq 5, 3) := by decide +kernel
theorem dL_law_536 : decode cL_law 536 = .ok (.iconst 0, 1) := by decide +kernel
theorem dL_law_537 : decode cL_law 537 = .ok (.ireturn, 1) := by decide +kernel
theorem dL_law_538 : decode cL_law 538 = .ok (.iload 5, 2) := by decide +kernel
theorem dL_law_540 : decode cL_law 540 = .ok (.ifCond .ne 15, 3) := by decide +kernel
theorem dL_law_543 : decode cL_law 543 = .ok (.aload_n 3, 1) := by decide +kernel
theorem dL_law_544 : decode cL_law 544 = .ok (.iconst 0, 1) := by decide +kernel
theorem dL_law_545 : decode cL_law 545 = .ok (.laload, 1) := by decide +kernel
theorem dL_law_546 : decode cL_law 546 = .ok (.iload 6, 2) := by decide +kernel
theorem dL_law_548 : decode cL_law 548 = .ok (.i2l, 1) := by decide +kernel
theorem dL_law_549 : decode cL_law 549 = .ok (.lcmp, 1) := by decide +kernel
theorem dL_law_550 : decode cL_law 550 = .ok (.ifCond .eq 5, 3) := by decide +kernel
theorem dL_law_553 : decode cL_law 553 = .ok (.iconst 0, 1) := by decide +kernel
theorem dL_law_554 : decode cL_law 554 = .ok (.ireturn, 1) := by decide +kernel
theorem dL_law_555 : decode cL_law 555 = .ok (.goto 1258, 3) := by decide +kernel
theorem dL_law_558 : decode cL_law 558 = .ok (.aload_n 1, 1) := by decide +kernel
theorem dL_law_559 : decode cL_law 559 = .ok (.aload_n 0, 1) := by decide +kernel
theorem dL_law_560 : decode cL_law 560 = .ok (.iload 4, 2) := by decide +kernel
theorem dL_law_562 : decode cL_law 562 = .ok (.iconst 1, 1) := by decide +kernel
theorem dL_law_563 : decode cL_law 563 = .ok (.iadd, 1) := by decide +kernel
theorem dL_law_564 : decode cL_law 564 = .ok (.iaload, 1) := by decide +kernel
theorem dL_law_565 : decode cL_law 565 = .ok (.aload_n 0, 1) := by decide +kernel
theorem dL_law_566 : decode cL_law 566 = .ok (.iload 4, 2) := by decide +kernel
theorem dL_law_568 : decode cL_law 568 = .ok (.iconst 2, 1) := by decide +kernel
theorem dL_law_569 : decode cL_law 569 = .ok (.iadd, 1) := by decide +kernel
theorem dL_law_570 : decode cL_law 570 = .ok (.iaload, 1) := by decide +kernel
theorem dL_law_571 : decode cL_law 571 = .ok (.aload_n 3, 1) := by decide +kernel
theorem dL_law_572 : decode cL_law 572 = .ok (.invokestatic 134, 3) := by decide +kernel
theorem dL_law_575 : decode cL_law 575 = .ok (.istore 5, 2) := by decide +kernel
theorem dL_law_577 : decode cL_law 577 = .ok (.aload_n 2, 1) := by decide +kernel
theorem dL_law_578 : decode cL_law 578 = .ok (.aload_n 0, 1) := by decide +kernel
theorem dL_law_579 : decode cL_law 579 = .ok (.iload 4, 2) := by decide +kernel
theorem dL_law_581 : decode cL_law 581 = .ok (.iconst 1, 1) := by decide +kernel
theorem dL_law_582 : decode cL_law 582 = .ok (.iadd, 1) := by decide +kernel
theorem dL_law_583 : decode cL_law 583 = .ok (.iaload, 1) := by decide +kernel
theorem dL_law_584 : decode cL_law 584 = .ok (.aload_n 0, 1) := by decide +kernel
theorem dL_law_585 : decode cL_law 585 = .ok (.iload 4, 2) := by decide +kernel
theorem dL_law_587 : decode cL_law 587 = .ok (.iconst 2, 1) := by decide +kernel
theorem dL_law_588 : decode cL_law 588 = .ok (.iadd, 1) := by decide +kernel
theorem dL_law_589 : decode cL_law 589 = .ok (.iaload, 1) := by decide +kernel
theorem dL_law_590 : decode cL_law 590 = .ok (.invokevirtual 136, 3) := by decide +kernel
theorem dL_law_593 : decode cL_law 593 = .ok (.istore 6, 2) := by decide +kernel
theorem dL_law_595 : decode cL_law 595 = .ok (.aload_n 2, 1) := by decide +kernel
theorem dL_law_596 : decode cL_law 596 = .ok (.invokevirtual 106, 3) := by decide +kernel
theorem dL_law_599 : decode cL_law 599 = .ok (.iload 5, 2) := by decide +kernel
theorem dL_law_601 : decode cL_law 601 = .ok (.if_icmp .eq 5, 3) := by decide +kernel
theorem dL_law_604 : decode cL_law 604 = .ok (.iconst 0, 1) := by decide +kernel
theorem dL_law_605 : decode cL_law 605 = .ok (.ireturn, 1) := by decide +kernel
theorem dL_law_606 : decode cL_law 606 = .ok (.iload 5, 2) := by decide +kernel
theorem dL_law_608 : decode cL_law 608 = .ok (.ifCond .ne 15, 3) := by decide +kernel
theorem dL_law_611 : decode cL_law 611 = .ok (.aload_n 3, 1) := by decide +kernel
theorem dL_law_612 : decode cL_law 612 = .ok (.iconst 0, 1) := by decide +kernel
theorem dL_law_613 : decode cL_law 613 = .ok (.laload, 1) := by decide +kernel
theorem dL_law_614 : decode cL_law 614 = .ok (.iload 6, 2) := by decide +kernel
theorem dL_law_616 : decode cL_law 616 = .ok (.i2l, 1) := by decide +kernel
theorem dL_law_617 : decode cL_law 617 = .ok (.lcmp, 1) := by decide +kernel
theorem dL_law_618 : decode cL_law 618 = .ok (.ifCond .eq 5, 3) := by decide +kernel
theorem dL_law_621 : decode cL_law 621 = .ok (.iconst 0, 1) := by decide +kernel
theorem dL_law_622 : decode cL_law 622 = .ok (.ireturn, 1) := by decide +kernel
theorem dL_law_623 : decode cL_law 623 = .ok (.goto 1190, 3) := by decide +kernel
theorem dL_law_626 : decode cL_law 626 = .ok (.aload_n 1, 1) := by decide +kernel
theorem dL_law_627 : decode cL_law 627 = .ok (.aload_n 0, 1) := by decide +kernel
theorem dL_law_628 : decode cL_law 628 = .ok (.iload 4, 2) := by decide +kernel
theorem dL_law_630 : decode cL_law 630 = .ok (.iconst 1, 1) := by decide +kernel
theorem dL_law_631 : decode cL_law 631 = .ok (.iadd, 1) := by decide +kernel
theorem dL_law_632 : decode cL_law 632 = .ok (.iaload, 1) := by decide +kernel
theorem dL_law_633 : decode cL_law 633 = .ok (.aload_n 0, 1) := by decide +kernel
theorem dL_law_634 : decode cL_law 634 = .ok (.iload 4, 2) := by decide +kernel
theorem dL_law_636 : decode cL_law 636 = .ok (.iconst 2, 1) := by decide +kernel
theorem dL_law_637 : decode cL_law 637 = .ok (.iadd, 1) := by decide +kernel
theorem dL_law_638 : decode cL_law 638 = .ok (.iaload, 1) := by decide +kernel
theorem dL_law_639 : decode cL_law 639 = .ok (.aload_n 3, 1) := by decide +kernel
theorem dL_law_640 : decode cL_law 640 = .ok (.invokestatic 137, 3) := by decide +kernel
theorem dL_law_643 : decode cL_law 643 = .ok (.istore 5, 2) := by decide +kernel
theorem dL_law_645 : decode cL_law 645 = .ok (.aload_n 2, 1) := by decide +kernel
theorem dL_law_646 : decode cL_law 646 = .ok (.aload_n 0, 1) := by decide +kernel
theorem dL_law_647 : decode cL_law 647 = .ok (.iload 4, 2) := by decide +kernel
theorem dL_law_649 : decode cL_law 649 = .ok (.iconst 1, 1) := by decide +kernel
theorem dL_law_650 : decode cL_law 650 = .ok (.iadd, 1) := by decide +kernel
theorem dL_law_651 : decode cL_law 651 = .ok (.iaload, 1) := by decide +kernel
theorem dL_law_652 : decode cL_law 652 = .ok (.aload_n 0, 1) := by decide +kernel
theorem dL_law_653 : decode cL_law 653 = .ok (.iload 4, 2) := by decide +kernel
theorem dL_law_655 : decode cL_law 655 = .ok (.iconst 2, 1) := by decide +kernel
theorem dL_law_656 : decode cL_law 656 = .ok (.iadd, 1) := by decide +kernel
theorem dL_law_657 : decode cL_law 657 = .ok (.iaload, 1) := by decide +kernel
theorem dL_law_658 : decode cL_law 658 = .ok (.invokevirtual 139, 3) := by decide +kernel
theorem dL_law_661 : decode cL_law 661 = .ok (.istore 6, 2) := by decide +kernel
theorem dL_law_663 : decode cL_law 663 = .ok (.aload_n 2, 1) := by decide +kernel
theorem dL_law_664 : decode cL_law 664 = .ok (.invokevirtual 106, 3) := by decide +kernel
theorem dL_law_667 : decode cL_law 667 = .ok (.iload 5, 2) := by decide +kernel
theorem dL_law_669 : decode cL_law 669 = .ok (.if_icmp .eq 5, 3) := by decide +kernel
theorem dL_law_672 : decode cL_law 672 = .ok (.iconst 0, 1) := by decide +kernel
theorem dL_law_673 : decode cL_law 673 = .ok (.ireturn, 1) := by decide +kernel
theorem dL_law_674 : decode cL_law 674 = .ok (.iload 5, 2) := by decide +kernel
theorem dL_law_676 : decode cL_law 676 = .ok (.ifCond .ne 15, 3) := by decide +kernel
theorem dL_law_679 : decode cL_law 679 = .ok (.aload_n 3, 1) := by decide +kernel
theorem dL_law_680 : decode cL_law 680 = .ok (.iconst 0, 1) := by decide +kernel
theorem dL_law_681 : decode cL_law 681 = .ok (.laload, 1) := by decide +kernel
theorem dL_law_682 : decode cL_law 682 = .ok (.iload 6, 2) := by decide +kernel
theorem dL_law_684 : decode cL_law 684 = .ok (.i2l, 1) := by decide +kernel
theorem dL_law_685 : decode cL_law 685 = .ok (.lcmp, 1) := by decide +kernel
theorem dL_law_686 : decode cL_law 686 = .ok (.ifCond .eq 5, 3) := by decide +kernel
theorem dL_law_689 : decode cL_law 689 = .ok (.iconst 0, 1) := by decide +kernel
theorem dL_law_690 : decode cL_law 690 = .ok (.ireturn, 1) := by decide +kernel
theorem dL_law_691 : decode cL_law 691 = .ok (.goto 1122, 3) := by decide +kernel
theorem dL_law_694 : decode cL_law 694 = .ok (.aload_n 1, 1) := by decide +kernel
theorem dL_law_695 : decode cL_law 695 = .ok (.aload_n 0, 1) := by decide +kernel
theorem dL_law_696 : decode cL_law 696 = .ok (.iload 4, 2) := by decide +kernel
theorem dL_law_698 : decode cL_law 698 = .ok (.iconst 1, 1) := by decide +kernel
theorem dL_law_699 : decode cL_law 699 = .ok (.iadd, 1) := by decide +kernel
theorem dL_law_700 : decode cL_law 700 = .ok (.iaload, 1) := by decide +kernel
theorem dL_law_701 : decode cL_law 701 = .ok (.aload_n 0, 1) := by decide +kernel
theorem dL_law_702 : decode cL_law 702 = .ok (.iload 4, 2) := by decide +kernel
theorem dL_law_704 : decode cL_law 704 = .ok (.iconst 2, 1) := by decide +kernel
theorem dL_law_705 : decode cL_law 705 = .ok (.iadd, 1) := by decide +kernel
theorem dL_law_706 : decode cL_law 706 = .ok (.iaload, 1) := by decide +kernel
theorem dL_law_707 : decode cL_law 707 = .ok (.aload_n 3, 1) := by decide +kernel
theorem dL_law_708 : decode cL_law 708 = .ok (.invokestatic 140, 3) := by decide +kernel
theorem dL_law_711 : decode cL_law 711 = .ok (.istore 5, 2) := by decide +kernel
theorem dL_law_713 : decode cL_law 713 = .ok (.aload_n 2, 1) := by decide +kernel
theorem dL_law_714 : decode cL_law 714 = .ok (.aload_n 0, 1) := by decide +kernel
theorem dL_law_715 : decode cL_law 715 = .ok (.iload 4, 2) := by decide +kernel
theorem dL_law_717 : decode cL_law 717 = .ok (.iconst 1, 1) := by decide +kernel
theorem dL_law_718 : decode cL_law 718 = .ok (.iadd, 1) := by decide +kernel
theorem dL_law_719 : decode cL_law 719 = .ok (.iaload, 1) := by decide +kernel
theorem dL_law_720 : decode cL_law 720 = .ok (.aload_n 0, 1) := by decide +kernel
theorem dL_law_721 : decode cL_law 721 = .ok (.iload 4, 2) := by decide +kernel
theorem dL_law_723 : decode cL_law 723 = .ok (.iconst 2, 1) := by decide +kernel
theorem dL_law_724 : decode cL_law 724 = .ok (.iadd, 1) := by decide +kernel
theorem dL_law_725 : decode cL_law 725 = .ok (.iaload, 1) := by decide +kernel
theorem dL_law_726 : decode cL_law 726 = .ok (.invokevirtual 142, 3) := by decide +kernel
theorem dL_law_729 : decode cL_law 729 = .ok (.istore 6, 2) := by decide +kernel
theorem dL_law_731 : decode cL_law 731 = .ok (.aload_n 2, 1) := by decide +kernel
theorem dL_law_732 : decode cL_law 732 = .ok (.invokevirtual 106, 3) := by decide +kernel
theorem dL_law_735 : decode cL_law 735 = .ok (.iload 5, 2) := by decide +kernel
theorem dL_law_737 : decode cL_law 737 = .ok (.if_icmp .eq 5, 3) := by decide +kernel
theorem dL_law_740 : decode cL_law 740 = .ok (.iconst 0, 1) := by decide +kernel
theorem dL_law_741 : decode cL_law 741 = .ok (.ireturn, 1) := by decide +kernel
theorem dL_law_742 : decode cL_law 742 = .ok (.iload 5, 2) := by decide +kernel
theorem dL_law_744 : decode cL_law 744 = .ok (.ifCond .ne 15, 3) := by decide +kernel
theorem dL_law_747 : decode cL_law 747 = .ok (.aload_n 3, 1) := by decide +kernel
theorem dL_law_748 : decode cL_law 748 = .ok (.iconst 0, 1) := by decide +kernel
theorem dL_law_749 : decode cL_law 749 = .ok (.laload, 1) := by decide +kernel
theorem dL_law_750 : decode cL_law 750 = .ok (.iload 6, 2) := by decide +kernel
theorem dL_law_752 : decode cL_law 752 = .ok (.i2l, 1) := by decide +kernel
theorem dL_law_753 : decode cL_law 753 = .ok (.lcmp, 1) := by decide +kernel
theorem dL_law_754 : decode cL_law 754 = .ok (.ifCond .eq 5, 3) := by decide +kernel
theorem dL_law_757 : decode cL_law 757 = .ok (.iconst 0, 1) := by decide +kernel
theorem dL_law_758 : decode cL_law 758 = .ok (.ireturn, 1) := by decide +kernel
theorem dL_law_759 : decode cL_law 759 = .ok (.goto 1054, 3) := by decide +kernel
theorem dL_law_762 : decode cL_law 762 = .ok (.aload_n 1, 1) := by decide +kernel
theorem dL_law_763 : decode cL_law 763 = .ok (.aload_n 0, 1) := by decide +kernel
theorem dL_law_764 : decode cL_law 764 = .ok (.iload 4, 2) := by decide +kernel
theorem dL_law_766 : decode cL_law 766 = .ok (.iconst 1, 1) := by decide +kernel
theorem dL_law_767 : decode cL_law 767 = .ok (.iadd, 1) := by decide +kernel
theorem dL_law_768 : decode cL_law 768 = .ok (.iaload, 1) := by decide +kernel
theorem dL_law_769 : decode cL_law 769 = .ok (.aload_n 3, 1) := by decide +kernel
theorem dL_law_770 : decode cL_law 770 = .ok (.invokestatic 143, 3) := by decide +kernel
theorem dL_law_773 : decode cL_law 773 = .ok (.istore 5, 2) := by decide +kernel
theorem dL_law_775 : decode cL_law 775 = .ok (.aload_n 2, 1) := by decide +kernel
theorem dL_law_776 : decode cL_law 776 = .ok (.aload_n 0, 1) := by decide +kernel
theorem dL_law_777 : decode cL_law 777 = .ok (.iload 4, 2) := by decide +kernel
theorem dL_law_779 : decode cL_law 779 = .ok (.iconst 1, 1) := by decide +kernel
theorem dL_law_780 : decode cL_law 780 = .ok (.iadd, 1) := by decide +kernel
theorem dL_law_781 : decode cL_law 781 = .ok (.iaload, 1) := by decide +kernel
theorem dL_law_782 : decode cL_law 782 = .ok (.invokevirtual 145, 3) := by decide +kernel
theorem dL_law_785 : decode cL_law 785 = .ok (.istore 6, 2) := by decide +kernel
theorem dL_law_787 : decode cL_law 787 = .ok (.aload_n 2, 1) := by decide +kernel
theorem dL_law_788 : decode cL_law 788 = .ok (.invokevirtual 106, 3) := by decide +kernel
theorem dL_law_791 : decode cL_law 791 = .ok (.iload 5, 2) := by decide +kernel
theorem dL_law_793 : decode cL_law 793 = .ok (.if_icmp .eq 5, 3) := by decide +kernel
theorem dL_law_796 : decode cL_law 796 = .ok (.iconst 0, 1) := by decide +kernel
theorem dL_law_797 : decode cL_law 797 = .ok (.ireturn, 1) := by decide +kernel
theorem dL_law_798 : decode cL_law 798 = .ok (.iload 5, 2) := by decide +kernel
theorem dL_law_800 : decode cL_law 800 = .ok (.ifCond .ne 15, 3) := by decide +kernel
theorem dL_law_803 : decode cL_law 803 = .ok (.aload_n 3, 1) := by decide +kernel
theorem dL_law_804 : decode cL_law 804 = .ok (.iconst 0, 1) := by decide +kernel
theorem dL_law_805 : decode cL_law 805 = .ok (.laload, 1) := by decide +kernel
theorem dL_law_806 : decode cL_law 806 = .ok (.iload 6, 2) := by decide +kernel
theorem dL_law_808 : decode cL_law 808 = .ok (.i2l, 1) := by decide +kernel
theorem dL_law_809 : decode cL_law 809 = .ok (.lcmp, 1) := by decide +kernel
theorem dL_law_810 : decode cL_law 810 = .ok (.ifCond .eq 5, 3) := by decide +kernel
theorem dL_law_813 : decode cL_law 813 = .ok (.iconst 0, 1) := by decide +kernel
theorem dL_law_814 : decode cL_law 814 = .ok (.ireturn, 1) := by decide +kernel
theorem dL_law_815 : decode cL_law 815 = .ok (.goto 998, 3) := by decide +kernel
theorem dL_law_818 : decode cL_law 818 = .ok (.aload_n 1, 1) := by decide +kernel
theorem dL_law_819 : decode cL_law 819 = .ok (.invokevirtual 146, 3) := by decide +kernel
theorem dL_law_822 : decode cL_law 822 = .ok (.aload_n 2, 1) := by decide +kernel
theorem dL_law_823 : decode cL_law 823 = .ok (.invokevirtual 149, 3) := by decide +kernel
theorem dL_law_826 : decode cL_law 826 = .ok (.if_icmp .eq 987, 3) := by decide +kernel
theorem dL_law_829 : decode cL_law 829 = .ok (.iconst 0, 1) := by decide +kernel
theorem dL_law_830 : decode cL_law 830 = .ok (.ireturn, 1) := by decide +kernel
theorem dL_law_831 : decode cL_law 831 = .ok (.aload_n 1, 1) := by decide +kernel
theorem dL_law_832 : decode cL_law 832 = .ok (.aload_n 0, 1) := by decide +kernel
theorem dL_law_833 : decode cL_law 833 = .ok (.iload 4, 2) := by decide +kernel
theorem dL_law_835 : decode cL_law 835 = .ok (.iconst 1, 1) := by decide +kernel
theorem dL_law_836 : decode cL_law 836 = .ok (.iadd, 1) := by decide +kernel
theorem dL_law_837 : decode cL_law 837 = .ok (.iaload, 1) := by decide +kernel
theorem dL_law_838 : decode cL_law 838 = .ok (.aload_n 0, 1) := by decide +kernel
theorem dL_law_839 : decode cL_law 839 = .ok (.iload 4, 2) := by decide +kernel
theorem dL_law_841 : decode cL_law 841 = .ok (.iconst 2, 1) := by decide +kernel
theorem dL_law_842 : decode cL_law 842 = .ok (.iadd, 1) := by decide +kernel
theorem dL_law_843 : decode cL_law 843 = .ok (.iaload, 1) := by decide +kernel
theorem dL_law_844 : decode cL_law 844 = .ok (.ifCond .eq 7, 3) := by decide +kernel
theorem dL_law_847 : decode cL_law 847 = .ok (.iconst 1, 1) := by decide +kernel
theorem dL_law_848 : decode cL_law 848 = .ok (.goto 4, 3) := by decide +kernel
theorem dL_law_851 : decode cL_law 851 = .ok (.iconst 0, 1) := by decide +kernel
theorem dL_law_852 : decode cL_law 852 = .ok (.aload_n 3, 1) := by decide +kernel
theorem dL_law_853 : decode cL_law 853 = .ok (.invokestatic 150, 3) := by decide +kernel
theorem dL_law_856 : decode cL_law 856 = .ok (.istore 5, 2) := by decide +kernel
theorem dL_law_858 : decode cL_law 858 = .ok (.aload_n 2, 1) := by decide +kernel
theorem dL_law_859 : decode cL_law 859 = .ok (.aload_n 0, 1) := by decide +kernel
theorem dL_law_860 : decode cL_law 860 = .ok (.iload 4, 2) := by decide +kernel
theorem dL_law_862 : decode cL_law 862 = .ok (.iconst 1, 1) := by decide +kernel
theorem dL_law_863 : decode cL_law 863 = .ok (.iadd, 1) := by decide +kernel
theorem dL_law_864 : decode cL_law 864 = .ok (.iaload, 1) := by decide +kernel
theorem dL_law_865 : decode cL_law 865 = .ok (.aload_n 0, 1) := by decide +kernel
theorem dL_law_866 : decode cL_law 866 = .ok (.iload 4, 2) := by decide +kernel
theorem dL_law_868 : decode cL_law 868 = .ok (.iconst 2, 1) := by decide +kernel
theorem dL_law_869 : decode cL_law 869 = .ok (.iadd, 1) := by decide +kernel
theorem dL_law_870 : decode cL_law 870 = .ok (.iaload, 1) := by decide +kernel
theorem dL_law_871 : decode cL_law 871 = .ok (.ifCond .eq 7, 3) := by decide +kernel
theorem dL_law_874 : decode cL_law 874 = .ok (.iconst 1, 1) := by decide +kernel
theorem dL_law_875 : decode cL_law 875 = .ok (.goto 4, 3) := by decide +kernel
theorem dL_law_878 : decode cL_law 878 = .ok (.iconst 0, 1) := by decide +kernel
theorem dL_law_879 : decode cL_law 879 = .ok (.invokevirtual 153, 3) := by decide +kernel
theorem dL_law_882 : decode cL_law 882 = .ok (.istore 6, 2) := by decide +kernel
theorem dL_law_884 : decode cL_law 884 = .ok (.aload_n 2, 1) := by decide +kernel
theorem dL_law_885 : decode cL_law 885 = .ok (.invokevirtual 106, 3) := by decide +kernel
theorem dL_law_888 : decode cL_law 888 = .ok (.iload 5, 2) := by decide +kernel
theorem dL_law_890 : decode cL_law 890 = .ok (.if_icmp .eq 5, 3) := by decide +kernel
theorem dL_law_893 : decode cL_law 893 = .ok (.iconst 0, 1) := by decide +kernel
theorem dL_law_894 : decode cL_law 894 = .ok (.ireturn, 1) := by decide +kernel
theorem dL_law_895 : decode cL_law 895 = .ok (.iload 5, 2) := by decide +kernel
theorem dL_law_897 : decode cL_law 897 = .ok (.ifCond .ne 15, 3) := by decide +kernel
theorem dL_law_900 : decode cL_law 900 = .ok (.aload_n 3, 1) := by decide +kernel
theorem dL_law_901 : decode cL_law 901 = .ok (.iconst 0, 1) := by decide +kernel
theorem dL_law_902 : decode cL_law 902 = .ok (.laload, 1) := by decide +kernel
theorem dL_law_903 : decode cL_law 903 = .ok (.iload 6, 2) := by decide +kernel
theorem dL_law_905 : decode cL_law 905 = .ok (.i2l, 1) := by decide +kernel
theorem dL_law_906 : decode cL_law 906 = .ok (.lcmp, 1) := by decide +kernel
theorem dL_law_907 : decode cL_law 907 = .ok (.ifCond .eq 5, 3) := by decide +kernel
theorem dL_law_910 : decode cL_law 910 = .ok (.iconst 0, 1) := by decide +kernel
theorem dL_law_911 : decode cL_law 911 = .ok (.ireturn, 1) := by decide +kernel
theorem dL_law_912 : decode cL_law 912 = .ok (.goto 901, 3) := by decide +kernel
theorem dL_law_915 : decode cL_law 915 = .ok (.aload_n 1, 1) := by decide +kernel
theorem dL_law_916 : decode cL_law 916 = .ok (.aload_n 0, 1) := by decide +kernel
theorem dL_law_917 : decode cL_law 917 = .ok (.iload 4, 2) := by decide +kernel
theorem dL_law_919 : decode cL_law 919 = .ok (.iconst 1, 1) := by decide +kernel
theorem dL_law_920 : decode cL_law 920 = .ok (.iadd, 1) := by decide +kernel
theorem dL_law_921 : decode cL_law 921 = .ok (.iaload, 1) := by decide +kernel
theorem dL_law_922 : decode cL_law 922 = .ok (.aload_n 0, 1) := by decide +kernel
theorem dL_law_923 : decode cL_law 923 = .ok (.iload 4, 2) := by decide +kernel
theorem dL_law_925 : decode cL_law 925 = .ok (.iconst 2, 1) := by decide +kernel
theorem dL_law_926 : decode cL_law 926 = .ok (.iadd, 1) := by decide +kernel
theorem dL_law_927 : decode cL_law 927 = .ok (.iaload, 1) := by decide +kernel
theorem dL_law_928 : decode cL_law 928 = .ok (.aload_n 3, 1) := by decide +kernel
theorem dL_law_929 : decode cL_law 929 = .ok (.invokestatic 154, 3) := by decide +kernel
theorem dL_law_932 : decode cL_law 932 = .ok (.istore 5, 2) := by decide +kernel
theorem dL_law_934 : decode cL_law 934 = .ok (.aload_n 2, 1) := by decide +kernel
theorem dL_law_935 : decode cL_law 935 = .ok (.aload_n 0, 1) := by decide +kernel
theorem dL_law_936 : decode cL_law 936 = .ok (.iload 4, 2) := by decide +kernel
theorem dL_law_938 : decode cL_law 938 = .ok (.iconst 1, 1) := by decide +kernel
theorem dL_law_939 : decode cL_law 939 = .ok (.iadd, 1) := by decide +kernel
theorem dL_law_940 : decode cL_law 940 = .ok (.iaload, 1) := by decide +kernel
theorem dL_law_941 : decode cL_law 941 = .ok (.aload_n 0, 1) := by decide +kernel
theorem dL_law_942 : decode cL_law 942 = .ok (.iload 4, 2) := by decide +kernel
theorem dL_law_944 : decode cL_law 944 = .ok (.iconst 2, 1) := by decide +kernel
theorem dL_law_945 : decode cL_law 945 = .ok (.iadd, 1) := by decide +kernel
theorem dL_law_946 : decode cL_law 946 = .ok (.iaload, 1) := by decide +kernel
theorem dL_law_947 : decode cL_law 947 = .ok (.invokevirtual 156, 3) := by decide +kernel
theorem dL_law_950 : decode cL_law 950 = .ok (.istore 6, 2) := by decide +kernel
theorem dL_law_952 : decode cL_law 952 = .ok (.aload_n 2, 1) := by decide +kernel
theorem dL_law_953 : decode cL_law 953 = .ok (.invokevirtual 106, 3) := by decide +kernel
theorem dL_law_956 : decode cL_law 956 = .ok (.iload 5, 2) := by decide +kernel
theorem dL_law_958 : decode cL_law 958 = .ok (.if_icmp .eq 5, 3) := by decide +kernel
theorem dL_law_961 : decode cL_law 961 = .ok (.iconst 0, 1) := by decide +kernel
theorem dL_law_962 : decode cL_law 962 = .ok (.ireturn, 1) := by decide +kernel
theorem dL_law_963 : decode cL_law 963 = .ok (.iload 5, 2) := by decide +kernel
theorem dL_law_965 : decode cL_law 965 = .ok (.ifCond .ne 15, 3) := by decide +kernel
theorem dL_law_968 : decode cL_law 968 = .ok (.aload_n 3, 1) := by decide +kernel
theorem dL_law_969 : decode cL_law 969 = .ok (.iconst 0, 1) := by decide +kernel
theorem dL_law_970 : decode cL_law 970 = .ok (.laload, 1) := by decide +kernel
theorem dL_law_971 : decode cL_law 971 = .ok (.iload 6, 2) := by decide +kernel
theorem dL_law_973 : decode cL_law 973 = .ok (.i2l, 1) := by decide +kernel
theorem dL_law_974 : decode cL_law 974 = .ok (.lcmp, 1) := by decide +kernel
theorem dL_law_975 : decode cL_law 975 = .ok (.ifCond .eq 5, 3) := by decide +kernel
theorem dL_law_978 : decode cL_law 978 = .ok (.iconst 0, 1) := by decide +kernel
theorem dL_law_979 : decode cL_law 979 = .ok (.ireturn, 1) := by decide +kernel
theorem dL_law_980 : decode cL_law 980 = .ok (.goto 833, 3) := by decide +kernel
theorem dL_law_983 : decode cL_law 983 = .ok (.aload_n 1, 1) := by decide +kernel
theorem dL_law_984 : decode cL_law 984 = .ok (.aload_n 0, 1) := by decide +kernel
theorem dL_law_985 : decode cL_law 985 = .ok (.iload 4, 2) := by decide +kernel
theorem dL_law_987 : decode cL_law 987 = .ok (.iconst 1, 1) := by decide +kernel
theorem dL_law_988 : decode cL_law 988 = .ok (.iadd, 1) := by decide +kernel
theorem dL_law_989 : decode cL_law 989 = .ok (.iaload, 1) := by decide +kernel
theorem dL_law_990 : decode cL_law 990 = .ok (.aload_n 3, 1) := by decide +kernel
theorem dL_law_991 : decode cL_law 991 = .ok (.invokestatic 157, 3) := by decide +kernel
theorem dL_law_994 : decode cL_law 994 = .ok (.istore 5, 2) := by decide +kernel
theorem dL_law_996 : decode cL_law 996 = .ok (.aload_n 2, 1) := by decide +kernel
theorem dL_law_997 : decode cL_law 997 = .ok (.aload_n 0, 1) := by decide +kernel
theorem dL_law_998 : decode cL_law 998 = .ok (.iload 4, 2) := by decide +kernel
theorem dL_law_1000 : decode cL_law 1000 = .ok (.iconst 1, 1) := by decide +kernel
theorem dL_law_1001 : decode cL_law 1001 = .ok (.iadd, 1) := by decide +kernel
theorem dL_law_1002 : decode cL_law 1002 = .ok (.iaload, 1) := by decide +kernel
theorem dL_law_1003 : decode cL_law 1003 = .ok (.invokevirtual 159, 3) := by decide +kernel
theorem dL_law_1006 : decode cL_law 1006 = .ok (.istore 6, 2) := by decide +kernel
theorem dL_law_1008 : decode cL_law 1008 = .ok (.aload_n 2, 1) := by decide +kernel
theorem dL_law_1009 : decode cL_law 1009 = .ok (.invokevirtual 106, 3) := by decide +kernel
theorem dL_law_1012 : decode cL_law 1012 = .ok (.iload 5, 2) := by decide +kernel
theorem dL_law_1014 : decode cL_law 1014 = .ok (.if_icmp .eq 5, 3) := by decide +kernel
theorem dL_law_1017 : decode cL_law 1017 = .ok (.iconst 0, 1) := by decide +kernel
theorem dL_law_1018 : decode cL_law 1018 = .ok (.ireturn, 1) := by decide +kernel
theorem dL_law_1019 : decode cL_law 1019 = .ok (.iload 5, 2) := by decide +kernel
theorem dL_law_1021 : decode cL_law 1021 = .ok (.ifCond .ne 15, 3) := by decide +kernel
theorem dL_law_1024 : decode cL_law 1024 = .ok (.aload_n 3, 1) := by decide +kernel
theorem dL_law_1025 : decode cL_law 1025 = .ok (.iconst 0, 1) := by decide +kernel
theorem dL_law_1026 : decode cL_law 1026 = .ok (.laload, 1) := by decide +kernel
theorem dL_law_1027 : decode cL_law 1027 = .ok (.iload 6, 2) := by decide +kernel
theorem dL_law_1029 : decode cL_law 1029 = .ok (.i2l, 1) := by decide +kernel
theorem dL_law_1030 : decode cL_law 1030 = .ok (.lcmp, 1) := by decide +kernel
theorem dL_law_1031 : decode cL_law 1031 = .ok (.ifCond .eq 5, 3) := by decide +kernel
theorem dL_law_1034 : decode cL_law 1034 = .ok (.iconst 0, 1) := by decide +kernel
theorem dL_law_1035 : decode cL_law 1035 = .ok (.ireturn, 1) := by decide +kernel
theorem dL_law_1036 : decode cL_law 1036 = .ok (.goto 777, 3) := by decide +kernel
theorem dL_law_1039 : decode cL_law 1039 = .ok (.aload_n 1, 1) := by decide +kernel
theorem dL_law_1040 : decode cL_law 1040 = .ok (.aload_n 0, 1) := by decide +kernel
theorem dL_law_1041 : decode cL_law 1041 = .ok (.iload 4, 2) := by decide +kernel
theorem dL_law_1043 : decode cL_law 1043 = .ok (.iconst 1, 1) := by decide +kernel
theorem dL_law_1044 : decode cL_law 1044 = .ok (.iadd, 1) := by decide +kernel
theorem dL_law_1045 : decode cL_law 1045 = .ok (.iaload, 1) := by decide +kernel
theorem dL_law_1046 : decode cL_law 1046 = .ok (.aload_n 3, 1) := by decide +kernel
theorem dL_law_1047 : decode cL_law 1047 = .ok (.invokestatic 160, 3) := by decide +kernel
theorem dL_law_1050 : decode cL_law 1050 = .ok (.istore 5, 2) := by decide +kernel
theorem dL_law_1052 : decode cL_law 1052 = .ok (.aload_n 2, 1) := by decide +kernel
theorem dL_law_1053 : decode cL_law 1053 = .ok (.aload_n 0, 1) := by decide +kernel
theorem dL_law_1054 : decode cL_law 1054 = .ok (.iload 4, 2) := by decide +kernel
theorem dL_law_1056 : decode cL_law 1056 = .ok (.iconst 1, 1) := by decide +kernel
theorem dL_law_1057 : decode cL_law 1057 = .ok (.iadd, 1) := by decide +kernel
theorem dL_law_1058 : decode cL_law 1058 = .ok (.iaload, 1) := by decide +kernel
theorem dL_law_1059 : decode cL_law 1059 = .ok (.invokevirtual 162, 3) := by decide +kernel
theorem dL_law_1062 : decode cL_law 1062 = .ok (.istore 6, 2) := by decide +kernel
theorem dL_law_1064 : decode cL_law 1064 = .ok (.aload_n 2, 1) := by decide +kernel
theorem dL_law_1065 : decode cL_law 1065 = .ok (.invokevirtual 106, 3) := by decide +kernel
theorem dL_law_1068 : decode cL_law 1068 = .ok (.iload 5, 2) := by decide +kernel
theorem dL_law_1070 : decode cL_law 1070 = .ok (.if_icmp .eq 5, 3) := by decide +kernel
theorem dL_law_1073 : decode cL_law 1073 = .ok (.iconst 0, 1) := by decide +kernel
theorem dL_law_1074 : decode cL_law 1074 = .ok (.ireturn, 1) := by decide +kernel
theorem dL_law_1075 : decode cL_law 1075 = .ok (.iload 5, 2) := by decide +kernel
theorem dL_law_1077 : decode cL_law 1077 = .ok (.ifCond .ne 15, 3) := by decide +kernel
theorem dL_law_1080 : decode cL_law 1080 = .ok (.aload_n 3, 1) := by decide +kernel
theorem dL_law_1081 : decode cL_law 1081 = .ok (.iconst 0, 1) := by decide +kernel
theorem dL_law_1082 : decode cL_law 1082 = .ok (.laload, 1) := by decide +kernel
theorem dL_law_1083 : decode cL_law 1083 = .ok (.iload 6, 2) := by decide +kernel
theorem dL_law_1085 : decode cL_law 1085 = .ok (.i2l, 1) := by decide +kernel
theorem dL_law_1086 : decode cL_law 1086 = .ok (.lcmp, 1) := by decide +kernel
theorem dL_law_1087 : decode cL_law 1087 = .ok (.ifCond .eq 5, 3) := by decide +kernel
theorem dL_law_1090 : decode cL_law 1090 = .ok (.iconst 0, 1) := by decide +kernel
theorem dL_law_1091 : decode cL_law 1091 = .ok (.ireturn, 1) := by decide +kernel
theorem dL_law_1092 : decode cL_law 1092 = .ok (.goto 721, 3) := by decide +kernel
theorem dL_law_1095 : decode cL_law 1095 = .ok (.aload_n 1, 1) := by decide +kernel
theorem dL_law_1096 : decode cL_law 1096 = .ok (.aload_n 3, 1) := by decide +kernel
theorem dL_law_1097 : decode cL_law 1097 = .ok (.invokestatic 163, 3) := by decide +kernel
theorem dL_law_1100 : decode cL_law 1100 = .ok (.istore 5, 2) := by decide +kernel
theorem dL_law_1102 : decode cL_law 1102 = .ok (.aload_n 2, 1) := by decide +kernel
theorem dL_law_1103 : decode cL_law 1103 = .ok (.invokevirtual 165, 3) := by decide +kernel
theorem dL_law_1106 : decode cL_law 1106 = .ok (.istore 6, 2) := by decide +kernel
theorem dL_law_1108 : decode cL_law 1108 = .ok (.aload_n 2, 1) := by decide +kernel
theorem dL_law_1109 : decode cL_law 1109 = .ok (.invokevirtual 106, 3) := by decide +kernel
theorem dL_law_1112 : decode cL_law 1112 = .ok (.iload 5, 2) := by decide +kernel
theorem dL_law_1114 : decode cL_law 1114 = .ok (.if_icmp .eq 5, 3) := by decide +kernel
theorem dL_law_1117 : decode cL_law 1117 = .ok (.iconst 0, 1) := by decide +kernel
theorem dL_law_1118 : decode cL_law 1118 = .ok (.ireturn, 1) := by decide +kernel
theorem dL_law_1119 : decode cL_law 1119 = .ok (.iload 5, 2) := by decide +kernel
theorem dL_law_1121 : decode cL_law 1121 = .ok (.ifCond .ne 15, 3) := by decide +kernel
theorem dL_law_1124 : decode cL_law 1124 = .ok (.aload_n 3, 1) := by decide +kernel
theorem dL_law_1125 : decode cL_law 1125 = .ok (.iconst 0, 1) := by decide +kernel
theorem dL_law_1126 : decode cL_law 1126 = .ok (.laload, 1) := by decide +kernel
theorem dL_law_1127 : decode cL_law 1127 = .ok (.iload 6, 2) := by decide +kernel
theorem dL_law_1129 : decode cL_law 1129 = .ok (.i2l, 1) := by decide +kernel
theorem dL_law_1130 : decode cL_law 1130 = .ok (.lcmp, 1) := by decide +kernel
theorem dL_law_1131 : decode cL_law 1131 = .ok (.ifCond .eq 5, 3) := by decide +kernel
theorem dL_law_1134 : decode cL_law 1134 = .ok (.iconst 0, 1) := by decide +kernel
theorem dL_law_1135 : decode cL_law 1135 = .ok (.ireturn, 1) := by decide +kernel
theorem dL_law_1136 : decode cL_law 1136 = .ok (.goto 677, 3) := by decide +kernel
theorem dL_law_1139 : decode cL_law 1139 = .ok (.aload_n 1, 1) := by decide +kernel
theorem dL_law_1140 : decode cL_law 1140 = .ok (.aload_n 0, 1) := by decide +kernel
theorem dL_law_1141 : decode cL_law 1141 = .ok (.iload 4, 2) := by decide +kernel
theorem dL_law_1143 : decode cL_law 1143 = .ok (.iconst 1, 1) := by decide +kernel
theorem dL_law_1144 : decode cL_law 1144 = .ok (.iadd, 1) := by decide +kernel
theorem dL_law_1145 : decode cL_law 1145 = .ok (.iaload, 1) := by decide +kernel
theorem dL_law_1146 : decode cL_law 1146 = .ok (.aload_n 3, 1) := by decide +kernel
theorem dL_law_1147 : decode cL_law 1147 = .ok (.invokestatic 166, 3) := by decide +kernel
theorem dL_law_1150 : decode cL_law 1150 = .ok (.istore 5, 2) := by decide +kernel
theorem dL_law_1152 : decode cL_law 1152 = .ok (.aload_n 2, 1) := by decide +kernel
theorem dL_law_1153 : decode cL_law 1153 = .ok (.aload_n 0, 1) := by decide +kernel
theorem dL_law_1154 : decode cL_law 1154 = .ok (.iload 4, 2) := by decide +kernel
theorem dL_law_1156 : decode cL_law 1156 = .ok (.iconst 1, 1) := by decide +kernel
theorem dL_law_1157 : decode cL_law 1157 = .ok (.iadd, 1) := by decide +kernel
theorem dL_law_1158 : decode cL_law 1158 = .ok (.iaload, 1) := by decide +kernel
theorem dL_law_1159 : decode cL_law 1159 = .ok (.invokevirtual 168, 3) := by decide +kernel
theorem dL_law_1162 : decode cL_law 1162 = .ok (.istore 6, 2) := by decide +kernel
theorem dL_law_1164 : decode cL_law 1164 = .ok (.aload_n 2, 1) := by decide +kernel
theorem dL_law_1165 : decode cL_law 1165 = .ok (.invokevirtual 106, 3) := by decide +kernel
theorem dL_law_1168 : decode cL_law 1168 = .ok (.iload 5, 2) := by decide +kernel
theorem dL_law_1170 : decode cL_law 1170 = .ok (.if_icmp .eq 5, 3) := by decide +kernel
theorem dL_law_1173 : decode cL_law 1173 = .ok (.iconst 0, 1) := by decide +kernel
theorem dL_law_1174 : decode cL_law 1174 = .ok (.ireturn, 1) := by decide +kernel
theorem dL_law_1175 : decode cL_law 1175 = .ok (.iload 5, 2) := by decide +kernel
theorem dL_law_1177 : decode cL_law 1177 = .ok (.ifCond .ne 15, 3) := by decide +kernel
theorem dL_law_1180 : decode cL_law 1180 = .ok (.aload_n 3, 1) := by decide +kernel
theorem dL_law_1181 : decode cL_law 1181 = .ok (.iconst 0, 1) := by decide +kernel
theorem dL_law_1182 : decode cL_law 1182 = .ok (.laload, 1) := by decide +kernel
theorem dL_law_1183 : decode cL_law 1183 = .ok (.iload 6, 2) := by decide +kernel
theorem dL_law_1185 : decode cL_law 1185 = .ok (.i2l, 1) := by decide +kernel
theorem dL_law_1186 : decode cL_law 1186 = .ok (.lcmp, 1) := by decide +kernel
theorem dL_law_1187 : decode cL_law 1187 = .ok (.ifCond .eq 5, 3) := by decide +kernel
theorem dL_law_1190 : decode cL_law 1190 = .ok (.iconst 0, 1) := by decide +kernel
theorem dL_law_1191 : decode cL_law 1191 = .ok (.ireturn, 1) := by decide +kernel
theorem dL_law_1192 : decode cL_law 1192 = .ok (.goto 621, 3) := by decide +kernel
theorem dL_law_1195 : decode cL_law 1195 = .ok (.aload_n 1, 1) := by decide +kernel
theorem dL_law_1196 : decode cL_law 1196 = .ok (.aload_n 3, 1) := by decide +kernel
theorem dL_law_1197 : decode cL_law 1197 = .ok (.invokestatic 169, 3) := by decide +kernel
theorem dL_law_1200 : decode cL_law 1200 = .ok (.istore 5, 2) := by decide +kernel
theorem dL_law_1202 : decode cL_law 1202 = .ok (.aload_n 2, 1) := by decide +kernel
theorem dL_law_1203 : decode cL_law 1203 = .ok (.invokevirtual 171, 3) := by decide +kernel
theorem dL_law_1206 : decode cL_law 1206 = .ok (.istore 6, 2) := by decide +kernel
theorem dL_law_1208 : decode cL_law 1208 = .ok (.aload_n 2, 1) := by decide +kernel
theorem dL_law_1209 : decode cL_law 1209 = .ok (.invokevirtual 106, 3) := by decide +kernel
theorem dL_law_1212 : decode cL_law 1212 = .ok (.iload 5, 2) := by decide +kernel
theorem dL_law_1214 : decode cL_law 1214 = .ok (.if_icmp .eq 5, 3) := by decide +kernel
theorem dL_law_1217 : decode cL_law 1217 = .ok (.iconst 0, 1) := by decide +kernel
theorem dL_law_1218 : decode cL_law 1218 = .ok (.ireturn, 1) := by decide +kernel
theorem dL_law_1219 : decode cL_law 1219 = .ok (.iload 5, 2) := by decide +kernel
theorem dL_law_1221 : decode cL_law 1221 = .ok (.ifCond .ne 15, 3) := by decide +kernel
theorem dL_law_1224 : decode cL_law 1224 = .ok (.aload_n 3, 1) := by decide +kernel
theorem dL_law_1225 : decode cL_law 1225 = .ok (.iconst 0, 1) := by decide +kernel
theorem dL_law_1226 : decode cL_law 1226 = .ok (.laload, 1) := by decide +kernel
theorem dL_law_1227 : decode cL_law 1227 = .ok (.iload 6, 2) := by decide +kernel
theorem dL_law_1229 : decode cL_law 1229 = .ok (.i2l, 1) := by decide +kernel
theorem dL_law_1230 : decode cL_law 1230 = .ok (.lcmp, 1) := by decide +kernel
theorem dL_law_1231 : decode cL_law 1231 = .ok (.ifCond .eq 5, 3) := by decide +kernel
theorem dL_law_1234 : decode cL_law 1234 = .ok (.iconst 0, 1) := by decide +kernel
theorem dL_law_1235 : decode cL_law 1235 = .ok (.ireturn, 1) := by decide +kernel
theorem dL_law_1236 : decode cL_law 1236 = .ok (.goto 577, 3) := by decide +kernel
theorem dL_law_1239 : decode cL_law 1239 = .ok (.aload_n 1, 1) := by decide +kernel
theorem dL_law_1240 : decode cL_law 1240 = .ok (.aload_n 0, 1) := by decide +kernel
theorem dL_law_1241 : decode cL_law 1241 = .ok (.iload 4, 2) := by decide +kernel
theorem dL_law_1243 : decode cL_law 1243 = .ok (.iconst 1, 1) := by decide +kernel
theorem dL_law_1244 : decode cL_law 1244 = .ok (.iadd, 1) := by decide +kernel
theorem dL_law_1245 : decode cL_law 1245 = .ok (.iaload, 1) := by decide +kernel
theorem dL_law_1246 : decode cL_law 1246 = .ok (.aload_n 3, 1) := by decide +kernel
theorem dL_law_1247 : decode cL_law 1247 = .ok (.invokestatic 172, 3) := by decide +kernel
theorem dL_law_1250 : decode cL_law 1250 = .ok (.istore 5, 2) := by decide +kernel
theorem dL_law_1252 : decode cL_law 1252 = .ok (.aload_n 2, 1) := by decide +kernel
theorem dL_law_1253 : decode cL_law 1253 = .ok (.aload_n 0, 1) := by decide +kernel
theorem dL_law_1254 : decode cL_law 1254 = .ok (.iload 4, 2) := by decide +kernel
theorem dL_law_1256 : decode cL_law 1256 = .ok (.iconst 1, 1) := by decide +kernel
theorem dL_law_1257 : decode cL_law 1257 = .ok (.iadd, 1) := by decide +kernel
theorem dL_law_1258 : decode cL_law 1258 = .ok (.iaload, 1) := by decide +kernel
theorem dL_law_1259 : decode cL_law 1259 = .ok (.invokevirtual 174, 3) := by decide +kernel
theorem dL_law_1262 : decode cL_law 1262 = .ok (.istore 6, 2) := by decide +kernel
theorem dL_law_1264 : decode cL_law 1264 = .ok (.aload_n 2, 1) := by decide +kernel
theorem dL_law_1265 : decode cL_law 1265 = .ok (.invokevirtual 106, 3) := by decide +kernel
theorem dL_law_1268 : decode cL_law 1268 = .ok (.iload 5, 2) := by decide +kernel
theorem dL_law_1270 : decode cL_law 1270 = .ok (.if_icmp .eq 5, 3) := by decide +kernel
theorem dL_law_1273 : decode cL_law 1273 = .ok (.iconst 0, 1) := by decide +kernel
theorem dL_law_1274 : decode cL_law 1274 = .ok (.ireturn, 1) := by decide +kernel
theorem dL_law_1275 : decode cL_law 1275 = .ok (.iload 5, 2) := by decide +kernel
theorem dL_law_1277 : decode cL_law 1277 = .ok (.ifCond .ne 15, 3) := by decide +kernel
theorem dL_law_1280 : decode cL_law 1280 = .ok (.aload_n 3, 1) := by decide +kernel
theorem dL_law_1281 : decode cL_law 1281 = .ok (.iconst 0, 1) := by decide +kernel
theorem dL_law_1282 : decode cL_law 1282 = .ok (.laload, 1) := by decide +kernel
theorem dL_law_1283 : decode cL_law 1283 = .ok (.iload 6, 2) := by decide +kernel
theorem dL_law_1285 : decode cL_law 1285 = .ok (.i2l, 1) := by decide +kernel
theorem dL_law_1286 : decode cL_law 1286 = .ok (.lcmp, 1) := by decide +kernel
theorem dL_law_1287 : decode cL_law 1287 = .ok (.ifCond .eq 5, 3) := by decide +kernel
theorem dL_law_1290 : decode cL_law 1290 = .ok (.iconst 0, 1) := by decide +kernel
theorem dL_law_1291 : decode cL_law 1291 = .ok (.ireturn, 1) := by decide +kernel
theorem dL_law_1292 : decode cL_law 1292 = .ok (.goto 521, 3) := by decide +kernel
theorem dL_law_1295 : decode cL_law 1295 = .ok (.aload_n 1, 1) := by decide +kernel
theorem dL_law_1296 : decode cL_law 1296 = .ok (.aload_n 0, 1) := by decide +kernel
theorem dL_law_1297 : decode cL_law 1297 = .ok (.iload 4, 2) := by decide +kernel
theorem dL_law_1299 : decode cL_law 1299 = .ok (.iconst 1, 1) := by decide +kernel
theorem dL_law_1300 : decode cL_law 1300 = .ok (.iadd, 1) := by decide +kernel
theorem dL_law_1301 : decode cL_law 1301 = .ok (.iaload, 1) := by decide +kernel
theorem dL_law_1302 : decode cL_law 1302 = .ok (.aload_n 3, 1) := by decide +kernel
theorem dL_law_1303 : decode cL_law 1303 = .ok (.invokestatic 175, 3) := by decide +kernel
theorem dL_law_1306 : decode cL_law 1306 = .ok (.istore 5, 2) := by decide +kernel
theorem dL_law_1308 : decode cL_law 1308 = .ok (.aload_n 2, 1) := by decide +kernel
theorem dL_law_1309 : decode cL_law 1309 = .ok (.aload_n 0, 1) := by decide +kernel
theorem dL_law_1310 : decode cL_law 1310 = .ok (.iload 4, 2) := by decide +kernel
theorem dL_law_1312 : decode cL_law 1312 = .ok (.iconst 1, 1) := by decide +kernel
theorem dL_law_1313 : decode cL_law 1313 = .ok (.iadd, 1) := by decide +kernel
theorem dL_law_1314 : decode cL_law 1314 = .ok (.iaload, 1) := by decide +kernel
theorem dL_law_1315 : decode cL_law 1315 = .ok (.invokevirtual 177, 3) := by decide +kernel
theorem dL_law_1318 : decode cL_law 1318 = .ok (.istore 6, 2) := by decide +kernel
theorem dL_law_1320 : decode cL_law 1320 = .ok (.aload_n 2, 1) := by decide +kernel
theorem dL_law_1321 : decode cL_law 1321 = .ok (.invokevirtual 106, 3) := by decide +kernel
theorem dL_law_1324 : decode cL_law 1324 = .ok (.iload 5, 2) := by decide +kernel
theorem dL_law_1326 : decode cL_law 1326 = .ok (.if_icmp .eq 5, 3) := by decide +kernel
theorem dL_law_1329 : decode cL_law 1329 = .ok (.iconst 0, 1) := by decide +kernel
theorem dL_law_1330 : decode cL_law 1330 = .ok (.ireturn, 1) := by decide +kernel
theorem dL_law_1331 : decode cL_law 1331 = .ok (.iload 5, 2) := by decide +kernel
theorem dL_law_1333 : decode cL_law 1333 = .ok (.ifCond .ne 15, 3) := by decide +kernel
theorem dL_law_1336 : decode cL_law 1336 = .ok (.aload_n 3, 1) := by decide +kernel
theorem dL_law_1337 : decode cL_law 1337 = .ok (.iconst 0, 1) := by decide +kernel
theorem dL_law_1338 : decode cL_law 1338 = .ok (.laload, 1) := by decide +kernel
theorem dL_law_1339 : decode cL_law 1339 = .ok (.iload 6, 2) := by decide +kernel
theorem dL_law_1341 : decode cL_law 1341 = .ok (.i2l, 1) := by decide +kernel
theorem dL_law_1342 : decode cL_law 1342 = .ok (.lcmp, 1) := by decide +kernel
theorem dL_law_1343 : decode cL_law 1343 = .ok (.ifCond .eq 5, 3) := by decide +kernel
theorem dL_law_1346 : decode cL_law 1346 = .ok (.iconst 0, 1) := by decide +kernel
theorem dL_law_1347 : decode cL_law 1347 = .ok (.ireturn, 1) := by decide +kernel
theorem dL_law_1348 : decode cL_law 1348 = .ok (.goto 465, 3) := by decide +kernel
theorem dL_law_1351 : decode cL_law 1351 = .ok (.aload_n 1, 1) := by decide +kernel
theorem dL_law_1352 : decode cL_law 1352 = .ok (.aload_n 0, 1) := by decide +kernel
theorem dL_law_1353 : decode cL_law 1353 = .ok (.iload 4, 2) := by decide +kernel
theorem dL_law_1355 : decode cL_law 1355 = .ok (.iconst 1, 1) := by decide +kernel
theorem dL_law_1356 : decode cL_law 1356 = .ok (.iadd, 1) := by decide +kernel
theorem dL_law_1357 : decode cL_law 1357 = .ok (.iaload, 1) := by decide +kernel
theorem dL_law_1358 : decode cL_law 1358 = .ok (.aload_n 3, 1) := by decide +kernel
theorem dL_law_1359 : decode cL_law 1359 = .ok (.invokestatic 178, 3) := by decide +kernel
theorem dL_law_1362 : decode cL_law 1362 = .ok (.istore 5, 2) := by decide +kernel
theorem dL_law_1364 : decode cL_law 1364 = .ok (.aload_n 2, 1) := by decide +kernel
theorem dL_law_1365 : decode cL_law 1365 = .ok (.aload_n 0, 1) := by decide +kernel
theorem dL_law_1366 : decode cL_law 1366 = .ok (.iload 4, 2) := by decide +kernel
theorem dL_law_1368 : decode cL_law 1368 = .ok (.iconst 1, 1) := by decide +kernel
theorem dL_law_1369 : decode cL_law 1369 = .ok (.iadd, 1) := by decide +kernel
theorem dL_law_1370 : decode cL_law 1370 = .ok (.iaload, 1) := by decide +kernel
theorem dL_law_1371 : decode cL_law 1371 = .ok (.invokevirtual 180, 3) := by decide +kernel
theorem dL_law_1374 : decode cL_law 1374 = .ok (.istore 6, 2) := by decide +kernel
theorem dL_law_1376 : decode cL_law 1376 = .ok (.aload_n 2, 1) := by decide +kernel
theorem dL_law_1377 : decode cL_law 1377 = .ok (.invokevirtual 106, 3) := by decide +kernel
theorem dL_law_1380 : decode cL_law 1380 = .ok (.iload 5, 2) := by decide +kernel
theorem dL_law_1382 : decode cL_law 1382 = .ok (.if_icmp .eq 5, 3) := by decide +kernel
theorem dL_law_1385 : decode cL_law 1385 = .ok (.iconst 0, 1) := by decide +kernel
theorem dL_law_1386 : decode cL_law 1386 = .ok (.ireturn, 1) := by decide +kernel
theorem dL_law_1387 : decode cL_law 1387 = .ok (.iload 5, 2) := by decide +kernel
theorem dL_law_1389 : decode cL_law 1389 = .ok (.ifCond .ne 15, 3) := by decide +kernel
theorem dL_law_1392 : decode cL_law 1392 = .ok (.aload_n 3, 1) := by decide +kernel
theorem dL_law_1393 : decode cL_law 1393 = .ok (.iconst 0, 1) := by decide +kernel
theorem dL_law_1394 : decode cL_law 1394 = .ok (.laload, 1) := by decide +kernel
theorem dL_law_1395 : decode cL_law 1395 = .ok (.iload 6, 2) := by decide +kernel
theorem dL_law_1397 : decode cL_law 1397 = .ok (.i2l, 1) := by decide +kernel
theorem dL_law_1398 : decode cL_law 1398 = .ok (.lcmp, 1) := by decide +kernel
theorem dL_law_1399 : decode cL_law 1399 = .ok (.ifCond .eq 5, 3) := by decide +kernel
theorem dL_law_1402 : decode cL_law 1402 = .ok (.iconst 0, 1) := by decide +kernel
theorem dL_law_1403 : decode cL_law 1403 = .ok (.ireturn, 1) := by decide +kernel
theorem dL_law_1404 : decode cL_law 1404 = .ok (.goto 409, 3) := by decide +kernel
theorem dL_law_1407 : decode cL_law 1407 = .ok (.aload_n 1, 1) := by decide +kernel
theorem dL_law_1408 : decode cL_law 1408 = .ok (.invokevirtual 181, 3) := by decide +kernel
theorem dL_law_1411 : decode cL_law 1411 = .ok (.aload_n 2, 1) := by decide +kernel
theorem dL_law_1412 : decode cL_law 1412 = .ok (.invokevirtual 184, 3) := by decide +kernel
theorem dL_law_1415 : decode cL_law 1415 = .ok (.if_icmp .eq 398, 3) := by decide +kernel
theorem dL_law_1418 : decode cL_law 1418 = .ok (.iconst 0, 1) := by decide +kernel
theorem dL_law_1419 : decode cL_law 1419 = .ok (.ireturn, 1) := by decide +kernel
theorem dL_law_1420 : decode cL_law 1420 = .ok (.aload_n 1, 1) := by decide +kernel
theorem dL_law_1421 : decode cL_law 1421 = .ok (.invokevirtual 185, 3) := by decide +kernel
theorem dL_law_1424 : decode cL_law 1424 = .ok (.aload_n 2, 1) := by decide +kernel
theorem dL_law_1425 : decode cL_law 1425 = .ok (.invokevirtual 188, 3) := by decide +kernel
theorem dL_law_1428 : decode cL_law 1428 = .ok (.if_icmp .eq 385, 3) := by decide +kernel
theorem dL_law_1431 : decode cL_law 1431 = .ok (.iconst 0, 1) := by decide +kernel
theorem dL_law_1432 : decode cL_law 1432 = .ok (.ireturn, 1) := by decide +kernel
theorem dL_law_1433 : decode cL_law 1433 = .ok (.aload_n 1, 1) := by decide +kernel
theorem dL_law_1434 : decode cL_law 1434 = .ok (.aload_n 0, 1) := by decide +kernel
theorem dL_law_1435 : decode cL_law 1435 = .ok (.iload 4, 2) := by decide +kernel
theorem dL_law_1437 : decode cL_law 1437 = .ok (.iconst 1, 1) := by decide +kernel
theorem dL_law_1438 : decode cL_law 1438 = .ok (.iadd, 1) := by decide +kernel
theorem dL_law_1439 : decode cL_law 1439 = .ok (.iaload, 1) := by decide +kernel
theorem dL_law_1440 : decode cL_law 1440 = .ok (.aload_n 0, 1) := by decide +kernel
theorem dL_law_1441 : decode cL_law 1441 = .ok (.iload 4, 2) := by decide +kernel
theorem dL_law_1443 : decode cL_law 1443 = .ok (.iconst 2, 1) := by decide +kernel
theorem dL_law_1444 : decode cL_law 1444 = .ok (.iadd, 1) := by decide +kernel
theorem dL_law_1445 : decode cL_law 1445 = .ok (.iaload, 1) := by decide +kernel
theorem dL_law_1446 : decode cL_law 1446 = .ok (.aload_n 3, 1) := by decide +kernel
theorem dL_law_1447 : decode cL_law 1447 = .ok (.invokestatic 189, 3) := by decide +kernel
theorem dL_law_1450 : decode cL_law 1450 = .ok (.istore 5, 2) := by decide +kernel
theorem dL_law_1452 : decode cL_law 1452 = .ok (.aload_n 2, 1) := by decide +kernel
theorem dL_law_1453 : decode cL_law 1453 = .ok (.aload_n 0, 1) := by decide +kernel
theorem dL_law_1454 : decode cL_law 1454 = .ok (.iload 4, 2) := by decide +kernel
theorem dL_law_1456 : decode cL_law 1456 = .ok (.iconst 1, 1) := by decide +kernel
theorem dL_law_1457 : decode cL_law 1457 = .ok (.iadd, 1) := by decide +kernel
theorem dL_law_1458 : decode cL_law 1458 = .ok (.iaload, 1) := by decide +kernel
theorem dL_law_1459 : decode cL_law 1459 = .ok (.aload_n 0, 1) := by decide +kernel
theorem dL_law_1460 : decode cL_law 1460 = .ok (.iload 4, 2) := by decide +kernel
theorem dL_law_1462 : decode cL_law 1462 = .ok (.iconst 2, 1) := by decide +kernel
theorem dL_law_1463 : decode cL_law 1463 = .ok (.iadd, 1) := by decide +kernel
theorem dL_law_1464 : decode cL_law 1464 = .ok (.iaload, 1) := by decide +kernel
theorem dL_law_1465 : decode cL_law 1465 = .ok (.invokevirtual 191, 3) := by decide +kernel
theorem dL_law_1468 : decode cL_law 1468 = .ok (.istore 6, 2) := by decide +kernel
theorem dL_law_1470 : decode cL_law 1470 = .ok (.aload_n 2, 1) := by decide +kernel
theorem dL_law_1471 : decode cL_law 1471 = .ok (.invokevirtual 106, 3) := by decide +kernel
theorem dL_law_1474 : decode cL_law 1474 = .ok (.iload 5, 2) := by decide +kernel
theorem dL_law_1476 : decode cL_law 1476 = .ok (.if_icmp .eq 5, 3) := by decide +kernel
theorem dL_law_1479 : decode cL_law 1479 = .ok (.iconst 0, 1) := by decide +kernel
theorem dL_law_1480 : decode cL_law 1480 = .ok (.ireturn, 1) := by decide +kernel
theorem dL_law_1481 : decode cL_law 1481 = .ok (.iload 5, 2) := by decide +kernel
theorem dL_law_1483 : decode cL_law 1483 = .ok (.ifCond .ne 15, 3) := by decide +kernel
theorem dL_law_1486 : decode cL_law 1486 = .ok (.aload_n 3, 1) := by decide +kernel
theorem dL_law_1487 : decode cL_law 1487 = .ok (.iconst 0, 1) := by decide +kernel
theorem dL_law_1488 : decode cL_law 1488 = .ok (.laload, 1) := by decide +kernel
theorem dL_law_1489 : decode cL_law 1489 = .ok (.iload 6, 2) := by decide +kernel
theorem dL_law_1491 : decode cL_law 1491 = .ok (.i2l, 1) := by decide +kernel
theorem dL_law_1492 : decode cL_law 1492 = .ok (.lcmp, 1) := by decide +kernel
theorem dL_law_1493 : decode cL_law 1493 = .ok (.ifCond .eq 5, 3) := by decide +kernel
theorem dL_law_1496 : decode cL_law 1496 = .ok (.iconst 0, 1) := by decide +kernel
theorem dL_law_1497 : decode cL_law 1497 = .ok (.ireturn, 1) := by decide +kernel
theorem dL_law_1498 : decode cL_law 1498 = .ok (.goto 315, 3) := by decide +kernel
theorem dL_law_1501 : decode cL_law 1501 = .ok (.aload_n 1, 1) := by decide +kernel
theorem dL_law_1502 : decode cL_law 1502 = .ok (.aload_n 0, 1) := by decide +kernel
theorem dL_law_1503 : decode cL_law 1503 = .ok (.iload 4, 2) := by decide +kernel
theorem dL_law_1505 : decode cL_law 1505 = .ok (.iconst 1, 1) := by decide +kernel
theorem dL_law_1506 : decode cL_law 1506 = .ok (.iadd, 1) := by decide +kernel
theorem dL_law_1507 : decode cL_law 1507 = .ok (.iaload, 1) := by decide +kernel
theorem dL_law_1508 : decode cL_law 1508 = .ok (.aload_n 0, 1) := by decide +kernel
theorem dL_law_1509 : decode cL_law 1509 = .ok (.iload 4, 2) := by decide +kernel
theorem dL_law_1511 : decode cL_law 1511 = .ok (.iconst 2, 1) := by decide +kernel
theorem dL_law_1512 : decode cL_law 1512 = .ok (.iadd, 1) := by decide +kernel
theorem dL_law_1513 : decode cL_law 1513 = .ok (.iaload, 1) := by decide +kernel
theorem dL_law_1514 : decode cL_law 1514 = .ok (.i2l, 1) := by decide +kernel
theorem dL_law_1515 : decode cL_law 1515 = .ok (.bipush 32, 2) := by decide +kernel
theorem dL_law_1517 : decode cL_law 1517 = .ok (.lshl, 1) := by decide +kernel
theorem dL_law_1518 : decode cL_law 1518 = .ok (.aload_n 0, 1) := by decide +kernel
theorem dL_law_1519 : decode cL_law 1519 = .ok (.iload 4, 2) := by decide +kernel
theorem dL_law_1521 : decode cL_law 1521 = .ok (.iconst 3, 1) := by decide +kernel
theorem dL_law_1522 : decode cL_law 1522 = .ok (.iadd, 1) := by decide +kernel
theorem dL_law_1523 : decode cL_law 1523 = .ok (.iaload, 1) := by decide +kernel
theorem dL_law_1524 : decode cL_law 1524 = .ok (.i2l, 1) := by decide +kernel
theorem dL_law_1525 : decode cL_law 1525 = .ok (.ldc2_w 192, 3) := by decide +kernel
theorem dL_law_1528 : decode cL_law 1528 = .ok (.land, 1) := by decide +kernel
theorem dL_law_1529 : decode cL_law 1529 = .ok (.lor, 1) := by decide +kernel
theorem dL_law_1530 : decode cL_law 1530 = .ok (.aload_n 3, 1) := by decide +kernel
theorem dL_law_1531 : decode cL_law 1531 = .ok (.invokestatic 194, 3) := by decide +kernel
theorem dL_law_1534 : decode cL_law 1534 = .ok (.istore 5, 2) := by decide +kernel
theorem dL_law_1536 : decode cL_law 1536 = .ok (.aload_n 2, 1) := by decide +kernel
theorem dL_law_1537 : decode cL_law 1537 = .ok (.aload_n 0, 1) := by decide +kernel
theorem dL_law_1538 : decode cL_law 1538 = .ok (.iload 4, 2) := by decide +kernel
theorem dL_law_1540 : decode cL_law 1540 = .ok (.iconst 1, 1) := by decide +kernel
theorem dL_law_1541 : decode cL_law 1541 = .ok (.iadd, 1) := by decide +kernel
theorem dL_law_1542 : decode cL_law 1542 = .ok (.iaload, 1) := by decide +kernel
theorem dL_law_1543 : decode cL_law 1543 = .ok (.aload_n 0, 1) := by decide +kernel
theorem dL_law_1544 : decode cL_law 1544 = .ok (.iload 4, 2) := by decide +kernel
theorem dL_law_1546 : decode cL_law 1546 = .ok (.iconst 2, 1) := by decide +kernel
theorem dL_law_1547 : decode cL_law 1547 = .ok (.iadd, 1) := by decide +kernel
theorem dL_law_1548 : decode cL_law 1548 = .ok (.iaload, 1) := by decide +kernel
theorem dL_law_1549 : decode cL_law 1549 = .ok (.i2l, 1) := by decide +kernel
theorem dL_law_1550 : decode cL_law 1550 = .ok (.bipush 32, 2) := by decide +kernel
theorem dL_law_1552 : decode cL_law 1552 = .ok (.lshl, 1) := by decide +kernel
theorem dL_law_1553 : decode cL_law 1553 = .ok (.aload_n 0, 1) := by decide +kernel
theorem dL_law_1554 : decode cL_law 1554 = .ok (.iload 4, 2) := by decide +kernel
theorem dL_law_1556 : decode cL_law 1556 = .ok (.iconst 3, 1) := by decide +kernel
theorem dL_law_1557 : decode cL_law 1557 = .ok (.iadd, 1) := by decide +kernel
theorem dL_law_1558 : decode cL_law 1558 = .ok (.iaload, 1) := by decide +kernel
theorem dL_law_1559 : decode cL_law 1559 = .ok (.i2l, 1) := by decide +kernel
theorem dL_law_1560 : decode cL_law 1560 = .ok (.ldc2_w 192, 3) := by decide +kernel
theorem dL_law_1563 : decode cL_law 1563 = .ok (.land, 1) := by decide +kernel
theorem dL_law_1564 : decode cL_law 1564 = .ok (.lor, 1) := by decide +kernel
theorem dL_law_1565 : decode cL_law 1565 = .ok (.invokevirtual 197, 3) := by decide +kernel
theorem dL_law_1568 : decode cL_law 1568 = .ok (.istore 6, 2) := by decide +kernel
theorem dL_law_1570 : decode cL_law 1570 = .ok (.aload_n 2, 1) := by decide +kernel
theorem dL_law_1571 : decode cL_law 1571 = .ok (.invokevirtual 106, 3) := by decide +kernel
theorem dL_law_1574 : decode cL_law 1574 = .ok (.iload 5, 2) := by decide +kernel
theorem dL_law_1576 : decode cL_law 1576 = .ok (.if_icmp .eq 5, 3) := by decide +kernel
theorem dL_law_1579 : decode cL_law 1579 = .ok (.iconst 0, 1) := by decide +kernel
theorem dL_law_1580 : decode cL_law 1580 = .ok (.ireturn, 1) := by decide +kernel
theorem dL_law_1581 : decode cL_law 1581 = .ok (.iload 5, 2) := by decide +kernel
theorem dL_law_1583 : decode cL_law 1583 = .ok (.ifCond .ne 15, 3) := by decide +kernel
theorem dL_law_1586 : decode cL_law 1586 = .ok (.aload_n 3, 1) := by decide +kernel
theorem dL_law_1587 : decode cL_law 1587 = .ok (.iconst 0, 1) := by decide +kernel
theorem dL_law_1588 : decode cL_law 1588 = .ok (.laload, 1) := by decide +kernel
theorem dL_law_1589 : decode cL_law 1589 = .ok (.iload 6, 2) := by decide +kernel
theorem dL_law_1591 : decode cL_law 1591 = .ok (.i2l, 1) := by decide +kernel
theorem dL_law_1592 : decode cL_law 1592 = .ok (.lcmp, 1) := by decide +kernel
theorem dL_law_1593 : decode cL_law 1593 = .ok (.ifCond .eq 5, 3) := by decide +kernel
theorem dL_law_1596 : decode cL_law 1596 = .ok (.iconst 0, 1) := by decide +kernel
theorem dL_law_1597 : decode cL_law 1597 = .ok (.ireturn, 1) := by decide +kernel
theorem dL_law_1598 : decode cL_law 1598 = .ok (.goto 215, 3) := by decide +kernel
theorem dL_law_1601 : decode cL_law 1601 = .ok (.aload_n 1, 1) := by decide +kernel
theorem dL_law_1602 : decode cL_law 1602 = .ok (.aload_n 0, 1) := by decide +kernel
theorem dL_law_1603 : decode cL_law 1603 = .ok (.iload 4, 2) := by decide +kernel
theorem dL_law_1605 : decode cL_law 1605 = .ok (.iconst 1, 1) := by decide +kernel
theorem dL_law_1606 : decode cL_law 1606 = .ok (.iadd, 1) := by decide +kernel
theorem dL_law_1607 : decode cL_law 1607 = .ok (.iaload, 1) := by decide +kernel
theorem dL_law_1608 : decode cL_law 1608 = .ok (.i2l, 1) := by decide +kernel
theorem dL_law_1609 : decode cL_law 1609 = .ok (.bipush 32, 2) := by decide +kernel
theorem dL_law_1611 : decode cL_law 1611 = .ok (.lshl, 1) := by decide +kernel
theorem dL_law_1612 : decode cL_law 1612 = .ok (.aload_n 0, 1) := by decide +kernel
theorem dL_law_1613 : decode cL_law 1613 = .ok (.iload 4, 2) := by decide +kernel
theorem dL_law_1615 : decode cL_law 1615 = .ok (.iconst 2, 1) := by decide +kernel
theorem dL_law_1616 : decode cL_law 1616 = .ok (.iadd, 1) := by decide +kernel
theorem dL_law_1617 : decode cL_law 1617 = .ok (.iaload, 1) := by decide +kernel
theorem dL_law_1618 : decode cL_law 1618 = .ok (.i2l, 1) := by decide +kernel
theorem dL_law_1619 : decode cL_law 1619 = .ok (.ldc2_w 192, 3) := by decide +kernel
theorem dL_law_1622 : decode cL_law 1622 = .ok (.land, 1) := by decide +kernel
theorem dL_law_1623 : decode cL_law 1623 = .ok (.lor, 1) := by decide +kernel
theorem dL_law_1624 : decode cL_law 1624 = .ok (.aload_n 0, 1) := by decide +kernel
theorem dL_law_1625 : decode cL_law 1625 = .ok (.iload 4, 2) := by decide +kernel
theorem dL_law_1627 : decode cL_law 1627 = .ok (.iconst 3, 1) := by decide +kernel
theorem dL_law_1628 : decode cL_law 1628 = .ok (.iadd, 1) := by decide +kernel
theorem dL_law_1629 : decode cL_law 1629 = .ok (.iaload, 1) := by decide +kernel
theorem dL_law_1630 : decode cL_law 1630 = .ok (.aload_n 3, 1) := by decide +kernel
theorem dL_law_1631 : decode cL_law 1631 = .ok (.invokestatic 198, 3) := by decide +kernel
theorem dL_law_1634 : decode cL_law 1634 = .ok (.istore 5, 2) := by decide +kernel
theorem dL_law_1636 : decode cL_law 1636 = .ok (.aload_n 2, 1) := by decide +kernel
theorem dL_law_1637 : decode cL_law 1637 = .ok (.aload_n 0, 1) := by decide +kernel
theorem dL_law_1638 : decode cL_law 1638 = .ok (.iload 4, 2) := by decide +kernel
theorem dL_law_1640 : decode cL_law 1640 = .ok (.iconst 1, 1) := by decide +kernel
theorem dL_law_1641 : decode cL_law 1641 = .ok (.iadd, 1) := by decide +kernel
theorem dL_law_1642 : decode cL_law 1642 = .ok (.iaload, 1) := by decide +kernel
theorem dL_law_1643 : decode cL_law 1643 = .ok (.i2l, 1) := by decide +kernel
theorem dL_law_1644 : decode cL_law 1644 = .ok (.bipush 32, 2) := by decide +kernel
theorem dL_law_1646 : decode cL_law 1646 = .ok (.lshl, 1) := by decide +kernel
theorem dL_law_1647 : decode cL_law 1647 = .ok (.aload_n 0, 1) := by decide +kernel
theorem dL_law_1648 : decode cL_law 1648 = .ok (.iload 4, 2) := by decide +kernel
theorem dL_law_1650 : decode cL_law 1650 = .ok (.iconst 2, 1) := by decide +kernel
theorem dL_law_1651 : decode cL_law 1651 = .ok (.iadd, 1) := by decide +kernel
theorem dL_law_1652 : decode cL_law 1652 = .ok (.iaload, 1) := by decide +kernel
theorem dL_law_1653 : decode cL_law 1653 = .ok (.i2l, 1) := by decide +kernel
theorem dL_law_1654 : decode cL_law 1654 = .ok (.ldc2_w 192, 3) := by decide +kernel
theorem dL_law_1657 : decode cL_law 1657 = .ok (.land, 1) := by decide +kernel
theorem dL_law_1658 : decode cL_law 1658 = .ok (.lor, 1) := by decide +kernel
theorem dL_law_1659 : decode cL_law 1659 = .ok (.aload_n 0, 1) := by decide +kernel
theorem dL_law_1660 : decode cL_law 1660 = .ok (.iload 4, 2) := by decide +kernel
theorem dL_law_1662 : decode cL_law 1662 = .ok (.iconst 3, 1) := by decide +kernel
theorem dL_law_1663 : decode cL_law 1663 = .ok (.iadd, 1) := by decide +kernel
theorem dL_law_1664 : decode cL_law 1664 = .ok (.iaload, 1) := by decide +kernel
theorem dL_law_1665 : decode cL_law 1665 = .ok (.invokevirtual 201, 3) := by decide +kernel
theorem dL_law_1668 : decode cL_law 1668 = .ok (.istore 6, 2) := by decide +kernel
theorem dL_law_1670 : decode cL_law 1670 = .ok (.aload_n 2, 1) := by decide +kernel
theorem dL_law_1671 : decode cL_law 1671 = .ok (.invokevirtual 106, 3) := by decide +kernel
theorem dL_law_1674 : decode cL_law 1674 = .ok (.iload 5, 2) := by decide +kernel
theorem dL_law_1676 : decode cL_law 1676 = .ok (.if_icmp .eq 5, 3) := by decide +kernel
theorem dL_law_1679 : decode cL_law 1679 = .ok (.iconst 0, 1) := by decide +kernel
theorem dL_law_1680 : decode cL_law 1680 = .ok (.ireturn, 1) := by decide +kernel
theorem dL_law_1681 : decode cL_law 1681 = .ok (.iload 5, 2) := by decide +kernel
theorem dL_law_1683 : decode cL_law 1683 = .ok (.ifCond .ne 15, 3) := by decide +kernel
theorem dL_law_1686 : decode cL_law 1686 = .ok (.aload_n 3, 1) := by decide +kernel
theorem dL_law_1687 : decode cL_law 1687 = .ok (.iconst 0, 1) := by decide +kernel
theorem dL_law_1688 : decode cL_law 1688 = .ok (.laload, 1) := by decide +kernel
theorem dL_law_1689 : decode cL_law 1689 = .ok (.iload 6, 2) := by decide +kernel
theorem dL_law_1691 : decode cL_law 1691 = .ok (.i2l, 1) := by decide +kernel
theorem dL_law_1692 : decode cL_law 1692 = .ok (.lcmp, 1) := by decide +kernel
theorem dL_law_1693 : decode cL_law 1693 = .ok (.ifCond .eq 5, 3) := by decide +kernel
theorem dL_law_1696 : decode cL_law 1696 = .ok (.iconst 0, 1) := by decide +kernel
theorem dL_law_1697 : decode cL_law 1697 = .ok (.ireturn, 1) := by decide +kernel
theorem dL_law_1698 : decode cL_law 1698 = .ok (.goto 115, 3) := by decide +kernel
theorem dL_law_1701 : decode cL_law 1701 = .ok (.aload_n 1, 1) := by decide +kernel
theorem dL_law_1702 : decode cL_law 1702 = .ok (.aload_n 0, 1) := by decide +kernel
theorem dL_law_1703 : decode cL_law 1703 = .ok (.iload 4, 2) := by decide +kernel
theorem dL_law_1705 : decode cL_law 1705 = .ok (.iconst 1, 1) := by decide +kernel
theorem dL_law_1706 : decode cL_law 1706 = .ok (.iadd, 1) := by decide +kernel
theorem dL_law_1707 : decode cL_law 1707 = .ok (.iaload, 1) := by decide +kernel
theorem dL_law_1708 : decode cL_law 1708 = .ok (.aload_n 3, 1) := by decide +kernel
theorem dL_law_1709 : decode cL_law 1709 = .ok (.invokestatic 202, 3) := by decide +kernel
theorem dL_law_1712 : decode cL_law 1712 = .ok (.istore 5, 2) := by decide +kernel
theorem dL_law_1714 : decode cL_law 1714 = .ok (.aload_n 2, 1) := by decide +kernel
theorem dL_law_1715 : decode cL_law 1715 = .ok (.aload_n 0, 1) := by decide +kernel
theorem dL_law_1716 : decode cL_law 1716 = .ok (.iload 4, 2) := by decide +kernel
theorem dL_law_1718 : decode cL_law 1718 = .ok (.iconst 1, 1) := by decide +kernel
theorem dL_law_1719 : decode cL_law 1719 = .ok (.iadd, 1) := by decide +kernel
theorem dL_law_1720 : decode cL_law 1720 = .ok (.iaload, 1) := by decide +kernel
theorem dL_law_1721 : decode cL_law 1721 = .ok (.invokevirtual 204, 3) := by decide +kernel
theorem dL_law_1724 : decode cL_law 1724 = .ok (.istore 6, 2) := by decide +kernel
theorem dL_law_1726 : decode cL_law 1726 = .ok (.aload_n 2, 1) := by decide +kernel
theorem dL_law_1727 : decode cL_law 1727 = .ok (.invokevirtual 106, 3) := by decide +kernel
theorem dL_law_1730 : decode cL_law 1730 = .ok (.iload 5, 2) := by decide +kernel
theorem dL_law_1732 : decode cL_law 1732 = .ok (.if_icmp .eq 5, 3) := by decide +kernel
theorem dL_law_1735 : decode cL_law 1735 = .ok (.iconst 0, 1) := by decide +kernel
theorem dL_law_1736 : decode cL_law 1736 = .ok (.ireturn, 1) := by decide +kernel
theorem dL_law_1737 : decode cL_law 1737 = .ok (.iload 5, 2) := by decide +kernel
theorem dL_law_1739 : decode cL_law 1739 = .ok (.ifCond .ne 15, 3) := by decide +kernel
theorem dL_law_1742 : decode cL_law 1742 = .ok (.aload_n 3, 1) := by decide +kernel
theorem dL_law_1743 : decode cL_law 1743 = .ok (.iconst 0, 1) := by decide +kernel
theorem dL_law_1744 : decode cL_law 1744 = .ok (.laload, 1) := by decide +kernel
theorem dL_law_1745 : decode cL_law 1745 = .ok (.iload 6, 2) := by decide +kernel
theorem dL_law_1747 : decode cL_law 1747 = .ok (.i2l, 1) := by decide +kernel
theorem dL_law_1748 : decode cL_law 1748 = .ok (.lcmp, 1) := by decide +kernel
theorem dL_law_1749 : decode cL_law 1749 = .ok (.ifCond .eq 5, 3) := by decide +kernel
theorem dL_law_1752 : decode cL_law 1752 = .ok (.iconst 0, 1) := by decide +kernel
theorem dL_law_1753 : decode cL_law 1753 = .ok (.ireturn, 1) := by decide +kernel
theorem dL_law_1754 : decode cL_law 1754 = .ok (.goto 59, 3) := by decide +kernel
theorem dL_law_1757 : decode cL_law 1757 = .ok (.aload_n 1, 1) := by decide +kernel
theorem dL_law_1758 : decode cL_law 1758 = .ok (.aload_n 0, 1) := by decide +kernel
theorem dL_law_1759 : decode cL_law 1759 = .ok (.iload 4, 2) := by decide +kernel
theorem dL_law_1761 : decode cL_law 1761 = .ok (.iconst 1, 1) := by decide +kernel
theorem dL_law_1762 : decode cL_law 1762 = .ok (.iadd, 1) := by decide +kernel
theorem dL_law_1763 : decode cL_law 1763 = .ok (.iaload, 1) := by decide +kernel
theorem dL_law_1764 : decode cL_law 1764 = .ok (.aload_n 3, 1) := by decide +kernel
theorem dL_law_1765 : decode cL_law 1765 = .ok (.invokestatic 205, 3) := by decide +kernel
theorem dL_law_1768 : decode cL_law 1768 = .ok (.istore 5, 2) := by decide +kernel
theorem dL_law_1770 : decode cL_law 1770 = .ok (.aload_n 2, 1) := by decide +kernel
theorem dL_law_1771 : decode cL_law 1771 = .ok (.aload_n 0, 1) := by decide +kernel
theorem dL_law_1772 : decode cL_law 1772 = .ok (.iload 4, 2) := by decide +kernel
theorem dL_law_1774 : decode cL_law 1774 = .ok (.iconst 1, 1) := by decide +kernel
theorem dL_law_1775 : decode cL_law 1775 = .ok (.iadd, 1) := by decide +kernel
theorem dL_law_1776 : decode cL_law 1776 = .ok (.iaload, 1) := by decide +kernel
theorem dL_law_1777 : decode cL_law 1777 = .ok (.invokevirtual 207, 3) := by decide +kernel
theorem dL_law_1780 : decode cL_law 1780 = .ok (.istore 6, 2) := by decide +kernel
theorem dL_law_1782 : decode cL_law 1782 = .ok (.aload_n 2, 1) := by decide +kernel
theorem dL_law_1783 : decode cL_law 1783 = .ok (.invokevirtual 106, 3) := by decide +kernel
theorem dL_law_1786 : decode cL_law 1786 = .ok (.iload 5, 2) := by decide +kernel
theorem dL_law_1788 : decode cL_law 1788 = .ok (.if_icmp .eq 5, 3) := by decide +kernel
theorem dL_law_1791 : decode cL_law 1791 = .ok (.iconst 0, 1) := by decide +kernel
theorem dL_law_1792 : decode cL_law 1792 = .ok (.ireturn, 1) := by decide +kernel
theorem dL_law_1793 : decode cL_law 1793 = .ok (.iload 5, 2) := by decide +kernel
theorem dL_law_1795 : decode cL_law 1795 = .ok (.ifCond .ne 15, 3) := by decide +kernel
theorem dL_law_1798 : decode cL_law 1798 = .ok (.aload_n 3, 1) := by decide +kernel
theorem dL_law_1799 : decode cL_law 1799 = .ok (.iconst 0, 1) := by decide +kernel
theorem dL_law_1800 : decode cL_law 1800 = .ok (.laload, 1) := by decide +kernel
theorem dL_law_1801 : decode cL_law 1801 = .ok (.iload 6, 2) := by decide +kernel
theorem dL_law_1803 : decode cL_law 1803 = .ok (.i2l, 1) := by decide +kernel
theorem dL_law_1804 : decode cL_law 1804 = .ok (.lcmp, 1) := by decide +kernel
theorem dL_law_1805 : decode cL_law 1805 = .ok (.ifCond .eq 5, 3) := by decide +kernel
theorem dL_law_1808 : decode cL_law 1808 = .ok (.iconst 0, 1) := by decide +kernel
theorem dL_law_1809 : decode cL_law 1809 = .ok (.ireturn, 1) := by decide +kernel
theorem dL_law_1810 : decode cL_law 1810 = .ok (.goto 3, 3) := by decide +kernel
theorem dL_law_1813 : decode cL_law 1813 = .ok (.iinc 4 4, 3) := by decide +kernel
theorem dL_law_1816 : decode cL_law 1816 = .ok (.goto (-1793), 3) := by decide +kernel
theorem dL_law_1819 : decode cL_law 1819 = .ok (.iconst 1, 1) := by decide +kernel
theorem dL_law_1820 : decode cL_law 1820 = .ok (.ireturn, 1) := by decide +kernel
end
section
/-! THE LAYER G: the whole world is a function of a state of whole numbers (cell, place) -> Int; a method's walk carries the state, the place in the code, the locals, the stack -/
def lw_g : List Cond := lw_tbl.filter goodWord
theorem lw_gin {w : Cond} (h : w ∈ lw_tbl) (hg : goodWord w = true) : w ∈ lw_g := List.mem_filter.mpr ⟨h, hg⟩
theorem lw_gg : GoodIn lw_g lw_g := fun _ h => ⟨h, good_of_word (List.mem_filter.mp h).2⟩
theorem lw_gc {w : Cond} (h : w ∈ lw_g) : GoodIn lw_g (w :: lw_g) := fun _ hw => (List.mem_cons.mp hw).elim (fun e => e ▸ lw_gg _ h) (lw_gg _)
def iI (z : Int) : Int32 := Int32.ofInt z
def lI (z : Int) : Int64 := Int64.ofInt z
/-- a state: to each cell (its number) a row of whole numbers -/
abbrev SS : Type := Nat → Int → Int
def uq (g : Int → Int) (c x : Int) : Int → Int := fun b => if b = c then x else g b
def us (S : SS) (n : Nat) (g : Int → Int) : SS := fun a => if a = n then g else S a
theorem us_eq (S : SS) (n : Nat) (g : Int → Int) : us S n g n = g := if_pos rfl
theorem us_ne (S : SS) {n m : Nat} (g : Int → Int) (h : m ≠ n) : us S n g m = S m := if_neg h
theorem us_us (S : SS) (n : Nat) (g h : Int → Int) : us (us S n g) n h = us S n h := by
  funext a
  by_cases e : a = n <;> simp [us, e]
theorem us_id (S : SS) (n : Nat) : us S n (S n) = S := by
  funext a
  by_cases e : a = n
  · subst e; exact us_eq S a _
  · exact us_ne S _ e
theorem us_comm (S : SS) {n m : Nat} (g h : Int → Int) (hne : n ≠ m) : us (us S n g) m h = us (us S m h) n g := by
  funext a
  by_cases e : a = m
  · subst e; rw [us_eq, us_ne _ _ (Ne.symm hne), us_eq]
  · by_cases e2 : a = n
    · subst e2; rw [us_ne _ _ e, us_eq, us_eq]
    · rw [us_ne _ _ e, us_ne _ _ e2, us_ne _ _ e2, us_ne _ _ e]
theorem uq_eq (g : Int → Int) (c x : Int) : uq g c x c = x := if_pos rfl
theorem uq_ne (g : Int → Int) {c b : Int} (x : Int) (h : b ≠ c) : uq g c x b = g b := if_neg h
abbrev gY : Type := va_G × Nat × (Nat → Nat) × (Nat → ClassId) × (Nat → Nat) × (Nat → Nat)
def yD (Y : gY) : va_G := Y.1
def yB (Y : gY) : Nat := Y.2.1
def yA (Y : gY) : Nat → Nat := Y.2.2.1
def yC (Y : gY) : Nat → ClassId := Y.2.2.2.1
def yK (Y : gY) : Nat → Nat := Y.2.2.2.2.1
def yV (Y : gY) : Nat → Nat := Y.2.2.2.2.2
def gTys (Y : gY) : List (ClassId × FieldType) := [(yC Y 0, .int), (yC Y 1, .char), (yC Y 2, .long), (yC Y 3, .boolean), (yC Y 4, .object "NecklaceSisters$Necklace")]
/-- a necklace (number i, 0 to 17): its object at the cell 4 i, its three rows at the next ones -/
def cN (Y : gY) (n : Nat) (g : Int → Int) : va_E := .inr (2, [.int (iI (g 0)), .int (iI (g 1)), .int (iI (g 2)), .int (iI (g 3)), .int (iI (g 4)), .int (iI (g 5)), .ref (yA Y (n + 1)), .ref (yA Y (n + 2)), .ref (yA Y (n + 3))])
def cI (Y : gY) (N : Nat) (g : Int → Int) : va_E := .inl (yC Y 0, N, .inl fun j => iI (g j))
def cO (Y : gY) (g : Int → Int) : Nat → Option va_E
  | 0 => some (.inr (5, [.ref (yA Y 73), .ref (yA Y 0), .ref (yA Y 4), .ref (yA Y 75), .ref (yA Y 77), .ref (yA Y 80), .ref (yA Y 81)]))
  | 1 => some (.inr (4, [.ref (yA Y 74), .int (iI (g 0))]))
  | 2 => some (.inl (yC Y 1, 120, .inl fun j => iI (g j)))
  | 3 => some (.inr (1, [.ref (yA Y 76), .int (iI (g 0)), .int (iI (g 1))]))
  | 4 => some (.inl (yC Y 4, 14, .inr (.inr (.inr (.inr fun j => some (yA Y (4 * (4 + j))))))))
  | 5 => some (.inr (0, [.ref (yA Y 78), .ref (yA Y 79), .int (iI (g 0)), .long (lI (g 1))]))
  | 6 => some (.inl (yC Y 2, 17, .inr (.inl fun j => lI (g j))))
  | 7 => some (cI Y 6 g)
  | 8 => some (.inr (3, [.ref (yA Y 8), .int (iI (g 0))]))
  | 9 => some (.inr (3, [.ref (yA Y 12), .int (iI (g 0))]))
  | 10 => some (.inr (6, [.int (iI (g 0)), .ref (yA Y 83), .int (iI (g 1)), .ref (yA Y 84), .ref (yA Y 85), .ref (yA Y 86), .int (iI (g 2)), .ref (yA Y 87), .ref (yA Y 88), .ref (yA Y 89), .ref (yA Y 90), .int (iI (g 3)), .int (iI (g 4))]))
  | 11 => some (cI Y 120 g)
  | 12 => some (cI Y 54 g)
  | 13 => some (cI Y 54 g)
  | 14 => some (cI Y 756 g)
  | 15 => some (cI Y 108 g)
  | 16 => some (.inl (yC Y 3, 2, .inl fun j => iI (g j)))
  | 17 => some (cI Y 68 g)
  | 18 => some (cI Y 8 g)
  | 19 => some (.inl (yC Y 2, 1, .inr (.inl fun j => lI (g j))))
  | _ => none
def cw (Y : gY) (n : Nat) (g : Int → Int) : Option va_E := if n < 72 then (if n % 4 = 0 then some (cN Y n g) else some (cI Y 16 g)) else cO Y g (n - 72)
theorem cw_N {Y : gY} {i : Nat} (h : i < 18) (g : Int → Int) : cw Y (4 * i) g = some (cN Y (4 * i) g) := by
  rw [cw, if_pos (by omega), if_pos (by omega)]
theorem cw_R {Y : gY} {i : Nat} (h : i < 18) (c : Nat) (h1 : 0 < c ∧ c < 4) (g : Int → Int) : cw Y (4 * i + c) g = some (cI Y 16 g) := by
  rw [cw, if_pos (by omega), if_neg (by omega)]
def gP (Y : gY) (S : SS) (H : Heap) : Prop := ∀ (n : Nat) (e : va_E), cw Y n (S n) = some e → va_at (yD Y) vwCl (yA Y n, e) H
/-- nest mates' words, which a warmed state keeps -/
def lw_nest : List Cond := lw_tbl.filter (fun w => match w with | .methodLinkNest .. => true | _ => false)
def gI (Y : gY) : Prop := (∀ i j : Nat, yA Y i = yA Y j → i = j) ∧ ∀ i : Nat, yB Y ≤ yA Y i
def gC (Y : gY) (U : State) : Prop := gI Y ∧ va_K (yD Y) vwCl (gTys Y) U ∧ (∀ w ∈ lw_nest, va_Nw w U) ∧ yB Y ≤ U.heap.size
theorem gC.warm {Y : gY} {s U : State} (hW : s.WarmedH U.vm) (hz : s.heap.size ≤ U.heap.size) (h : gC Y s) : gC Y U := by
  obtain ⟨h1, h2, h3, h4⟩ := h
  refine ⟨h1, va_K.moved hW.alike h2, fun w hw => ?_, Nat.le_trans h4 hz⟩
  have h5 := h3 w hw
  have h6 := (List.mem_filter.mp hw).2
  cases w <;> first | (cases h6; done) | exact va_Nw.warmM hW h5
/-- what a walk holds fast: program, launch, .., what is left of room, the end's predicate -/
abbrev gX : Type := Program × Launch × Env × Room × State × MethodId × Array Value × List Frame × Method × Code × Nat × Nat × (State → Prop)
def xP (X : gX) : Program := X.1
def xL (X : gX) : Launch := X.2.1
def xE (X : gX) : Env := X.2.2.1
def xR (X : gX) : Room := X.2.2.2.1
def xS (X : gX) : State := X.2.2.2.2.1
def xM (X : gX) : MethodId := X.2.2.2.2.2.1
def xArgs (X : gX) : Array Value := X.2.2.2.2.2.2.1
def xBelow (X : gX) : List Frame := X.2.2.2.2.2.2.2.1
def xMeth (X : gX) : Method := X.2.2.2.2.2.2.2.2.1
def xC (X : gX) : Code := X.2.2.2.2.2.2.2.2.2.1
def xCells (X : gX) : Nat := X.2.2.2.2.2.2.2.2.2.2.1
def xSlots (X : gX) : Nat := X.2.2.2.2.2.2.2.2.2.2.2.1
def xQ (X : gX) : State → Prop := X.2.2.2.2.2.2.2.2.2.2.2.2
def gF (Y : gY) : Addr → Prop := fun q => yB Y ≤ q
def gH (Y : gY) (s : State) (H : Heap) (locs : List Loc) (S : SS) : Prop := gP Y S H ∧ s.heap.size ≤ H.size ∧ (∀ q : Nat, q < yB Y → H[q]? = s.heap[q]?) ∧ ∀ lc ∈ locs, yB Y ≤ lc.base
def gU (X : gX) (H : Heap) (locs : List Loc) (g : JFrame) : Prop := W (xP X) (xL X) (xE X) (xR X) (xS X) (xM X) (xArgs X) (xBelow X) (xMeth X) (xC X) H locs (xCells X) (xSlots X) (xQ X) g
/-- THE WALK: with the state S, at pc, locals L, stack st -/
def gW (Y : gY) (X : gX) (S : SS) (pc : Nat) (L : List (Nat × Value)) (st : List Value) : Prop :=
  ∀ (H : Heap) (locs : List Loc) (ls : Array Slot), gH Y (xS X) H locs S → lv_has ls (xC X).maxLocals L → gU X H locs (F0 (xM X) pc ls st)
def gB (Y : gY) (X : gX) (own : String) (cc : ByteArray) (nL : Nat) (ret : Option FieldType) (k : Nat) : Prop :=
  (xP X).tables.exec = Jvm.exec ∧ (xC X).code = cc ∧ (xC X).maxLocals = nL ∧ (xMeth X).sig.returnType = ret ∧ (xS X).vm.findClass own = some (xM X).cls ∧ (∀ w ∈ lw_g, w.before (xArgs X) (xS X) = true) ∧ gC Y (xS X) ∧ (xMeth X).locks = false ∧ k ≤ (xR X).frames ∧ 40 * k ≤ (xR X).locals ∧ xCells X ≤ (xR X).cells ∧ xSlots X ≤ (xR X).slots
def gPc (Y : gY) (S : SS) (av : List Value) : Array Value → State → Prop := fun v U => v = av.toArray ∧ gC Y U ∧ gP Y S U.heap
def gQc (Y : gY) (Post : Option Value → SS → Prop) : Array Value → State → Outcome → State → Prop := fun _ st o t =>
  (∃ (v : Option Value) (S' : SS), o = .returned v ∧ Post v S' ∧ gP Y S' t.heap) ∧ st.heap.size ≤ t.heap.size ∧ ∀ q : Nat, q < yB Y → t.heap[q]? = st.heap[q]?
/-- a method: its name, its bytes, its locals, what it returns, how deep it calls -/
abbrev gMd : Type := MethodName × ByteArray × Nat × Option FieldType × Nat
def gRoom (k : Nat) : Room := { frames := k, cells := 0, slots := 0, locals := 40 * k }
def gM (Y : gY) (l : Launch) (md : gMd) (S : SS) (av : List Value) (Post : Option Value → SS → Prop) : Prop :=
  Met l md.1 (.code md.1 md.2.1 md.2.2.1 md.2.2.2.1 :: lw_g) (gRoom md.2.2.2.2) (gPc Y S av) (gQc Y Post) 0 0 (gF Y)
def gE (Y : gY) (X : gX) (Post : Option Value → SS → Prop) : Prop := xQ X = MQ (xBelow X) (gQc Y Post) (xArgs X) (xS X) (xCells X) (xSlots X) (gF Y)
/-- a method's contract out of its walk -/
theorem gM_of {Y : gY} {l : Launch} {md : gMd} {S : SS} {av : List Value} {Post : Option Value → SS → Prop} (hy : plainName md.1.cls = true) (hlen : (lg_sl av).length ≤ md.2.2.1)
    (h : ∀ X : gX, xL X = l → gB Y X md.1.cls md.2.1 md.2.2.1 md.2.2.2.1 md.2.2.2.2 → gE Y X Post → gW Y X S 0 (lv_args 0 av) []) : gM Y l md S av Post := by
  obtain ⟨y, bytes, nL, ret, k⟩ := md
  dsimp only at hy hlen h
  refine Met.ofW (cc := bytes) (maxL := nL) (ret := ret) hy rfl ?_
  intro p e s m args below meth c s₁ B hml hv
  obtain ⟨rfl, hC, hP⟩ := hv
  have hts := atoms_spec (ws := .code y bytes nL ret :: lw_g) B.pre
  have h1 := h (p, l, e, (headSpec (.code y bytes nL ret :: lw_g) (gRoom k)).room, s, m, av.toArray, below, meth, c, 0, 0, MQ below (gQc Y Post) av.toArray s 0 0 (gF Y)) rfl
    ⟨B.exec, B.bytes, hml, B.returns, findClass_of_methodNamed B.named, fun w hw => hts w (List.mem_cons_of_mem _ hw), hC, B.notSynchronized, Nat.le_refl _, Nat.le_refl _, Nat.le_refl _, Nat.le_refl _⟩ rfl
  have hl := lv_entry av (n := nL) hlen
  have h2 := h1 s.heap [] _ ⟨hP, Nat.le_refl _, fun _ _ => rfl, fun _ h => by cases h⟩ (by show lv_has _ c.maxLocals _; rw [hml]; exact hl)
  show W p l e _ s m _ below meth c s.heap [] 0 0 _ (entryFrame m av.toArray nL)
  rw [lg_entry_eq]
  exact h2
end
section
theorem iI_add (a b : Int) : iI a + iI b = iI (a + b) := (Int32.ofInt_add a b).symm
theorem iI_sub (a b : Int) : iI a - iI b = iI (a - b) := (Int32.ofInt_sub a b).symm
theorem iI_mul (a b : Int) : iI a * iI b = iI (a * b) := (Int32.ofInt_mul a b).symm
theorem iI_neg (a : Int) : -iI a = iI (-a) := (Int32.ofInt_neg a).symm
theorem lI_add (a b : Int) : lI a + lI b = lI (a + b) := (Int64.ofInt_add a b).symm
theorem lI_sub (a b : Int) : lI a - lI b = lI (a - b) := (Int64.ofInt_sub a b).symm
theorem lI_mul (a b : Int) : lI a * lI b = lI (a * b) := (Int64.ofInt_mul a b).symm
theorem lI_neg (a : Int) : -lI a = lI (-a) := (Int64.ofInt_neg a).symm
def rI (a : Int) : Prop := -2147483648 ≤ a ∧ a < 2147483648
def rL (a : Int) : Prop := -9223372036854775808 ≤ a ∧ a < 9223372036854775808
theorem iI_toInt {a : Int} (h : rI a) : (iI a).toInt = a := by
  obtain ⟨h1, h2⟩ := h
  exact Int32.toInt_ofInt_of_le (by simpa using h1) (by simpa using h2)
theorem lI_toInt {a : Int} (h : rL a) : (lI a).toInt = a := by
  obtain ⟨h1, h2⟩ := h
  exact Int64.toInt_ofInt_of_le (by simpa using h1) (by simpa using h2)
theorem iI_self (x : Int32) : iI x.toInt = x := by rw [iI]; exact Int32.ofInt_toInt x
theorem lI_self (x : Int64) : lI x.toInt = x := by rw [lI]; exact Int64.ofInt_toInt x
theorem rI_toInt (x : Int32) : rI x.toInt := ⟨by have := Int32.le_toInt x; simpa using this, by have := Int32.toInt_lt x; simpa using this⟩
theorem rL_toInt (x : Int64) : rL x.toInt := ⟨by have := Int64.le_toInt x; simpa using this, by have := Int64.toInt_lt x; simpa using this⟩
theorem iI_lt {a b : Int} (ha : rI a) (hb : rI b) : iI a < iI b ↔ a < b := by rw [Int32.lt_iff_toInt_lt, iI_toInt ha, iI_toInt hb]
theorem iI_le {a b : Int} (ha : rI a) (hb : rI b) : iI a ≤ iI b ↔ a ≤ b := by rw [Int32.le_iff_toInt_le, iI_toInt ha, iI_toInt hb]
theorem iI_eq {a b : Int} (ha : rI a) (hb : rI b) : iI a = iI b ↔ a = b := by rw [← Int32.toInt_inj, iI_toInt ha, iI_toInt hb]
theorem lI_lt {a b : Int} (ha : rL a) (hb : rL b) : lI a < lI b ↔ a < b := by rw [Int64.lt_iff_toInt_lt, lI_toInt ha, lI_toInt hb]
theorem lI_le {a b : Int} (ha : rL a) (hb : rL b) : lI a ≤ lI b ↔ a ≤ b := by rw [Int64.le_iff_toInt_le, lI_toInt ha, lI_toInt hb]
theorem lI_eq {a b : Int} (ha : rL a) (hb : rL b) : lI a = lI b ↔ a = b := by rw [← Int64.toInt_inj, lI_toInt ha, lI_toInt hb]
theorem rI_0 : rI 0 := ⟨by decide, by decide⟩
theorem iI_nat (n : Nat) : iI (n : Int) = nI n := Int32.ofInt_eq_ofNat
theorem lI_nat (n : Nat) : lI (n : Int) = lN n := Int64.ofInt_eq_ofNat
theorem iI_clamp {a : Int} (h : rI a) : (iI a).toNatClampNeg = a.toNat := by
  show (iI a).toInt.toNat = _
  rw [iI_toInt h]
theorem iI_in {a : Int} {n : Nat} (h0 : 0 ≤ a) (h : a < n) (hn : n < 2147483648) : vp_in (iI a) n := by
  rw [vp_in_iff, iI_toInt ⟨by omega, by omega⟩]
  exact ⟨h0, h⟩
theorem iI_div {a b : Int} (h0 : 0 ≤ a) (h1 : a < 2147483648) (hb : 0 < b) (hb1 : b < 2147483648) : iI a / iI b = iI (a / b) := by
  obtain ⟨n, rfl⟩ := Int.eq_ofNat_of_zero_le h0
  obtain ⟨d, rfl⟩ := Int.eq_ofNat_of_zero_le (Int.le_of_lt hb)
  rw [iI_nat, iI_nat, pk_div (by omega) (by omega) (by omega), ← iI_nat]
  rfl
theorem iI_rem {a b : Int} (h0 : 0 ≤ a) (h1 : a < 2147483648) (hb : 0 < b) (hb1 : b < 2147483648) : iI a - iI a / iI b * iI b = iI (a % b) := by
  obtain ⟨n, rfl⟩ := Int.eq_ofNat_of_zero_le h0
  obtain ⟨d, rfl⟩ := Int.eq_ofNat_of_zero_le (Int.le_of_lt hb)
  rw [iI_nat, iI_nat, pk_rem (by omega) (by omega) (by omega), ← iI_nat]
  rfl
theorem lI_div {a b : Int} (h0 : 0 ≤ a) (h1 : a < 9223372036854775808) (hb : 0 < b) (hb1 : b < 9223372036854775808) : lI a / lI b = lI (a / b) := by
  obtain ⟨n, rfl⟩ := Int.eq_ofNat_of_zero_le h0
  obtain ⟨d, rfl⟩ := Int.eq_ofNat_of_zero_le (Int.le_of_lt hb)
  rw [lI_nat, lI_nat, pk_lDiv (by omega) (by omega) (by omega), ← lI_nat]
  rfl
theorem lI_rem {a b : Int} (h0 : 0 ≤ a) (h1 : a < 9223372036854775808) (hb : 0 < b) (hb1 : b < 9223372036854775808) : lI a - lI a / lI b * lI b = lI (a % b) := by
  obtain ⟨n, rfl⟩ := Int.eq_ofNat_of_zero_le h0
  obtain ⟨d, rfl⟩ := Int.eq_ofNat_of_zero_le (Int.le_of_lt hb)
  rw [lI_nat, lI_nat, pk_lRem (by omega) (by omega) (by omega), ← lI_nat]
  rfl
theorem iI_i2l {a : Int} (h : rI a) : (iI a).toInt64 = lI a := by
  rw [← Int64.toInt_inj, lI_toInt ⟨by have := h.1; omega, by have := h.2; omega⟩, Int32.toInt_toInt64, iI_toInt h]
theorem lI_l2i (a : Int) : (lI a).toInt32 = iI a := by rw [lI, iI]; exact Int64.toInt32_ofInt
def bI (P : Prop) [Decidable P] : Int32 := if P then 1 else 0
theorem bI_t {P : Prop} [Decidable P] (h : P) : bI P = 1 := if_pos h
theorem bI_f {P : Prop} [Decidable P] (h : ¬ P) : bI P = 0 := if_neg h
section GR
variable {Y : gY} {X : gX} {S : SS} {own : String} {cc : ByteArray} {nL : Nat} {ret : Option FieldType} {k : Nat} {pc q : Nat} {L L' : List (Nat × Value)} {st : List Value}
theorem g_sub (ks : List Nat) (hl : lv_pick L ks = L') (kk : gW Y X S pc L' st) : gW Y X S pc L st := fun H locs ls hH h => kk H locs ls hH (lv_sub h ks hl)
theorem g_eqS {S' : SS} (h : S = S') (kk : gW Y X S' pc L st) : gW Y X S pc L st := h ▸ kk
theorem g_eqT {st' : List Value} (h : st = st') (kk : gW Y X S pc L st') : gW Y X S pc L st := h ▸ kk
theorem g_eqL (h : L = L') (kk : gW Y X S pc L' st) : gW Y X S pc L st := h ▸ kk
theorem g_iconst (B : gB Y X own cc nL ret k) {n : Int} (d : decode cc pc = .ok (.iconst n, 1)) (hq : pc + 1 = q)  (kk : gW Y X S q L (.int (iI n) :: st)) : gW Y X S pc L st := by
  subst hq
  intro H locs ls hH hl
  exact lv_iconst B.1 B.2.1 d rfl (kk H locs ls hH hl)
theorem g_bipush (B : gB Y X own cc nL ret k) {n : Int} (d : decode cc pc = .ok (.bipush n, 2)) (hq : pc + 2 = q) (hv : (Int8.ofInt n).toInt32 = iI n) (kk : gW Y X S q L (.int (iI n) :: st)) : gW Y X S pc L st := by
  subst hq
  intro H locs ls hH hl
  exact lv_bipush B.1 B.2.1 d hv (kk H locs ls hH hl)
theorem g_sipush (B : gB Y X own cc nL ret k) {n : Int} (d : decode cc pc = .ok (.sipush n, 3)) (hq : pc + 3 = q) (hv : (Int16.ofInt n).toInt32 = iI n) (kk : gW Y X S q L (.int (iI n) :: st)) : gW Y X S pc L st := by
  subst hq
  intro H locs ls hH hl
  exact lv_sipush B.1 B.2.1 d hv (kk H locs ls hH hl)
theorem g_lconst (B : gB Y X own cc nL ret k) {n : Fin 2} {z : Int} (d : decode cc pc = .ok (.lconst n, 1)) (hq : pc + 1 = q) (hv : Int64.ofNat (n : Nat) = lI z) (kk : gW Y X S q L (.long (lI z) :: st)) : gW Y X S pc L st := by
  subst hq
  intro H locs ls hH hl
  exact lv_lconst B.1 B.2.1 d hv (kk H locs ls hH hl)
theorem g_ldc (B : gB Y X own cc nL ret k) {i : Nat} {v : Int32} {z : Int} (d : decode cc pc = .ok (.ldc i, 2)) (hq : pc + 2 = q) (hw : Cond.constant own i v ∈ lw_g) (hv : v = iI z) (kk : gW Y X S q L (.int (iI z) :: st)) : gW Y X S pc L st := by
  subst hq
  intro H locs ls hH hl
  exact lv_ldc B.1 B.2.1 B.2.2.2.2.1 (B.2.2.2.2.2.1 _ hw) d (hv ▸ (kk H locs ls hH hl))
theorem g_ldc2 (B : gB Y X own cc nL ret k) {i : Nat} {v : Int64} {z : Int} (d : decode cc pc = .ok (.ldc2_w i, 3)) (hq : pc + 3 = q) (hw : Cond.constantLong own i v ∈ lw_g) (hv : v = lI z) (kk : gW Y X S q L (.long (lI z) :: st)) : gW Y X S pc L st := by
  subst hq
  intro H locs ls hH hl
  exact lv_ldc2 B.1 B.2.1 B.2.2.2.2.1 (B.2.2.2.2.2.1 _ hw) d (hv ▸ (kk H locs ls hH hl))
theorem g_iload_n (B : gB Y X own cc nL ret k) {j : Fin 4} {x : Int32} (d : decode cc pc = .ok (.iload_n j, 1)) (hq : pc + 1 = q) (n : Nat) (hk : L[n]? = some ((j : Nat), .int x)) (kk : gW Y X S q L (.int x :: st)) : gW Y X S pc L st := by
  subst hq
  intro H locs ls hH hl
  exact lv_iload_n B.1 B.2.1 d rfl (lv_at hl n hk) (kk H locs ls hH hl)
theorem g_iload (B : gB Y X own cc nL ret k) {j : Nat} {x : Int32} (d : decode cc pc = .ok (.iload j, 2)) (hq : pc + 2 = q) (n : Nat) (hk : L[n]? = some (j, .int x)) (kk : gW Y X S q L (.int x :: st)) : gW Y X S pc L st := by
  subst hq
  intro H locs ls hH hl
  exact lv_iload B.1 B.2.1 d (lv_at hl n hk) (kk H locs ls hH hl)
theorem g_lload_n (B : gB Y X own cc nL ret k) {j : Fin 4} {x : Int64} (d : decode cc pc = .ok (.lload_n j, 1)) (hq : pc + 1 = q) (n : Nat) (hk : L[n]? = some ((j : Nat), .long x)) (kk : gW Y X S q L (.long x :: st)) : gW Y X S pc L st := by
  subst hq
  intro H locs ls hH hl
  exact lv_lload_n B.1 B.2.1 d rfl (lv_at hl n hk) (kk H locs ls hH hl)
theorem g_lload (B : gB Y X own cc nL ret k) {j : Nat} {x : Int64} (d : decode cc pc = .ok (.lload j, 2)) (hq : pc + 2 = q) (n : Nat) (hk : L[n]? = some (j, .long x)) (kk : gW Y X S q L (.long x :: st)) : gW Y X S pc L st := by
  subst hq
  intro H locs ls hH hl
  exact lv_lload B.1 B.2.1 d (lv_at hl n hk) (kk H locs ls hH hl)
theorem g_aload_n (B : gB Y X own cc nL ret k) {j : Fin 4} {x : Nat} (d : decode cc pc = .ok (.aload_n j, 1)) (hq : pc + 1 = q) (n : Nat) (hk : L[n]? = some ((j : Nat), .ref x)) (kk : gW Y X S q L (.ref x :: st)) : gW Y X S pc L st := by
  subst hq
  intro H locs ls hH hl
  exact lv_aload_n B.1 B.2.1 d rfl (lv_at hl n hk) (kk H locs ls hH hl)
theorem g_aload (B : gB Y X own cc nL ret k) {j : Nat} {x : Nat} (d : decode cc pc = .ok (.aload j, 2)) (hq : pc + 2 = q) (n : Nat) (hk : L[n]? = some (j, .ref x)) (kk : gW Y X S q L (.ref x :: st)) : gW Y X S pc L st := by
  subst hq
  intro H locs ls hH hl
  exact lv_aload B.1 B.2.1 d (lv_at hl n hk) (kk H locs ls hH hl)
theorem g_istore_n (B : gB Y X own cc nL ret k) {j : Fin 4} {x : Int32} (d : decode cc pc = .ok (.istore_n j, 1)) (hq : pc + 1 = q) (hn : (j : Nat) < nL) (hL : ((j : Nat), Value.int x) :: L.filter (fun q => !(q.1 == (j : Nat)) && !(q.1 + 1 == (j : Nat) && q.2.category == 2)) = L') (kk : gW Y X S q L' st) : gW Y X S pc L (Value.int x :: st) := by
  subst hq
  intro H locs ls hH hl
  rw [B.2.2.1] at hl
  exact lv_istore_n B.1 B.2.1 d rfl hl hn hL (fun ls' hl' => kk H locs ls' hH (by rw [B.2.2.1]; exact hl'))
theorem g_istore (B : gB Y X own cc nL ret k) {j : Nat} {x : Int32} (d : decode cc pc = .ok (.istore j, 2)) (hq : pc + 2 = q) (hn : j < nL) (hL : (j, Value.int x) :: L.filter (fun q => !(q.1 == j) && !(q.1 + 1 == j && q.2.category == 2)) = L') (kk : gW Y X S q L' st) : gW Y X S pc L (Value.int x :: st) := by
  subst hq
  intro H locs ls hH hl
  rw [B.2.2.1] at hl
  exact lv_istore B.1 B.2.1 d hl hn hL (fun ls' hl' => kk H locs ls' hH (by rw [B.2.2.1]; exact hl'))
theorem g_astore_n (B : gB Y X own cc nL ret k) {j : Fin 4} {x : Nat} (d : decode cc pc = .ok (.astore_n j, 1)) (hq : pc + 1 = q) (hn : (j : Nat) < nL) (hL : ((j : Nat), Value.ref x) :: L.filter (fun q => !(q.1 == (j : Nat)) && !(q.1 + 1 == (j : Nat) && q.2.category == 2)) = L') (kk : gW Y X S q L' st) : gW Y X S pc L (Value.ref x :: st) := by
  subst hq
  intro H locs ls hH hl
  rw [B.2.2.1] at hl
  exact lv_astore_n B.1 B.2.1 d rfl hl hn hL (fun ls' hl' => kk H locs ls' hH (by rw [B.2.2.1]; exact hl'))
theorem g_astore (B : gB Y X own cc nL ret k) {j : Nat} {x : Nat} (d : decode cc pc = .ok (.astore j, 2)) (hq : pc + 2 = q) (hn : j < nL) (hL : (j, Value.ref x) :: L.filter (fun q => !(q.1 == j) && !(q.1 + 1 == j && q.2.category == 2)) = L') (kk : gW Y X S q L' st) : gW Y X S pc L (Value.ref x :: st) := by
  subst hq
  intro H locs ls hH hl
  rw [B.2.2.1] at hl
  exact lv_astore B.1 B.2.1 d hl hn hL (fun ls' hl' => kk H locs ls' hH (by rw [B.2.2.1]; exact hl'))
theorem g_lstore_n (B : gB Y X own cc nL ret k) {j : Fin 4} {x : Int64} (d : decode cc pc = .ok (.lstore_n j, 1)) (hq : pc + 1 = q) (hn : (j : Nat) + 1 < nL) (hL : ((j : Nat), Value.long x) :: L.filter (fun q => !(q.1 == (j : Nat)) && (!(q.1 == (j : Nat) + 1) && !(q.1 + 1 == (j : Nat) && q.2.category == 2))) = L') (kk : gW Y X S q L' st) : gW Y X S pc L (Value.long x :: st) := by
  subst hq
  intro H locs ls hH hl
  rw [B.2.2.1] at hl
  exact lv_lstore_n B.1 B.2.1 d rfl hl hn hL (fun ls' hl' => kk H locs ls' hH (by rw [B.2.2.1]; exact hl'))
theorem g_lstore (B : gB Y X own cc nL ret k) {j : Nat} {x : Int64} (d : decode cc pc = .ok (.lstore j, 2)) (hq : pc + 2 = q) (hn : j + 1 < nL) (hL : (j, Value.long x) :: L.filter (fun q => !(q.1 == j) && (!(q.1 == j + 1) && !(q.1 + 1 == j && q.2.category == 2))) = L') (kk : gW Y X S q L' st) : gW Y X S pc L (Value.long x :: st) := by
  subst hq
  intro H locs ls hH hl
  rw [B.2.2.1] at hl
  exact lv_lstore B.1 B.2.1 d hl hn hL (fun ls' hl' => kk H locs ls' hH (by rw [B.2.2.1]; exact hl'))
theorem g_iinc (B : gB Y X own cc nL ret k) {i n : Nat} {z a : Int} (d : decode cc pc = .ok (.iinc i z, 3)) (hq : pc + 3 = q) (hk : L[n]? = some (i, .int (iI a))) (hn : i < nL) (hL : (i, Value.int (iI (a + z))) :: L.filter (fun q => !(q.1 == i) && !(q.1 + 1 == i && q.2.category == 2)) = L') (kk : gW Y X S q L' st) : gW Y X S pc L st := by
  subst hq
  intro H locs ls hH hl
  rw [B.2.2.1] at hl
  exact lv_iinc B.1 B.2.1 d hl hk (iI_add a z) hn hL (fun ls' hl' => kk H locs ls' hH (by rw [B.2.2.1]; exact hl'))
theorem g_iadd (B : gB Y X own cc nL ret k) {a b : Int} (d : decode cc pc = .ok (.iadd, 1)) (hq : pc + 1 = q)  (kk : gW Y X S q L (.int (iI (a + b)) :: st)) : gW Y X S pc L (.int (iI b) :: .int (iI a) :: st) := by
  subst hq
  intro H locs ls hH hl
  exact lv_iadd B.1 B.2.1 d (by rw [iI_add]; exact kk H locs ls hH hl)
theorem g_isub (B : gB Y X own cc nL ret k) {a b : Int} (d : decode cc pc = .ok (.isub, 1)) (hq : pc + 1 = q)  (kk : gW Y X S q L (.int (iI (a - b)) :: st)) : gW Y X S pc L (.int (iI b) :: .int (iI a) :: st) := by
  subst hq
  intro H locs ls hH hl
  exact lv_isub B.1 B.2.1 d (by rw [iI_sub]; exact kk H locs ls hH hl)
theorem g_imul (B : gB Y X own cc nL ret k) {a b : Int} (d : decode cc pc = .ok (.imul, 1)) (hq : pc + 1 = q)  (kk : gW Y X S q L (.int (iI (a * b)) :: st)) : gW Y X S pc L (.int (iI b) :: .int (iI a) :: st) := by
  subst hq
  intro H locs ls hH hl
  exact lv_imul B.1 B.2.1 d (by rw [iI_mul]; exact kk H locs ls hH hl)
theorem g_ladd (B : gB Y X own cc nL ret k) {a b : Int} (d : decode cc pc = .ok (.ladd, 1)) (hq : pc + 1 = q)  (kk : gW Y X S q L (.long (lI (a + b)) :: st)) : gW Y X S pc L (.long (lI b) :: .long (lI a) :: st) := by
  subst hq
  intro H locs ls hH hl
  exact lv_ladd B.1 B.2.1 d (by rw [lI_add]; exact kk H locs ls hH hl)
theorem g_lsub (B : gB Y X own cc nL ret k) {a b : Int} (d : decode cc pc = .ok (.lsub, 1)) (hq : pc + 1 = q)  (kk : gW Y X S q L (.long (lI (a - b)) :: st)) : gW Y X S pc L (.long (lI b) :: .long (lI a) :: st) := by
  subst hq
  intro H locs ls hH hl
  exact lv_lsub B.1 B.2.1 d (by rw [lI_sub]; exact kk H locs ls hH hl)
theorem g_lmul (B : gB Y X own cc nL ret k) {a b : Int} (d : decode cc pc = .ok (.lmul, 1)) (hq : pc + 1 = q)  (kk : gW Y X S q L (.long (lI (a * b)) :: st)) : gW Y X S pc L (.long (lI b) :: .long (lI a) :: st) := by
  subst hq
  intro H locs ls hH hl
  exact lv_lmul B.1 B.2.1 d (by rw [lI_mul]; exact kk H locs ls hH hl)
theorem g_ineg (B : gB Y X own cc nL ret k) {a : Int} (d : decode cc pc = .ok (.ineg, 1)) (hq : pc + 1 = q)  (kk : gW Y X S q L (.int (iI (-a)) :: st)) : gW Y X S pc L (.int (iI a) :: st) := by
  subst hq
  intro H locs ls hH hl
  exact lv_ineg B.1 B.2.1 d (by rw [iI_neg]; exact kk H locs ls hH hl)
theorem g_lneg (B : gB Y X own cc nL ret k) {a : Int} (d : decode cc pc = .ok (.lneg, 1)) (hq : pc + 1 = q)  (kk : gW Y X S q L (.long (lI (-a)) :: st)) : gW Y X S pc L (.long (lI a) :: st) := by
  subst hq
  intro H locs ls hH hl
  exact lv_lneg B.1 B.2.1 d (by rw [lI_neg]; exact kk H locs ls hH hl)
theorem g_idiv (B : gB Y X own cc nL ret k) {a b : Int} (d : decode cc pc = .ok (.idiv, 1)) (hq : pc + 1 = q) (h0 : 0 ≤ a) (h1 : a < 2147483648) (hb0 : 0 < b) (hb1 : b < 2147483648) (kk : gW Y X S q L (.int (iI (a / b)) :: st)) : gW Y X S pc L (.int (iI b) :: .int (iI a) :: st) := by
  subst hq
  intro H locs ls hH hl
  exact lv_idiv B.1 B.2.1 d (fun h => by have h2 := (iI_eq (a := b) (b := 0) ⟨by omega, by omega⟩ rI_0).mp h; omega) (by rw [iI_div h0 h1 hb0 hb1]; exact kk H locs ls hH hl)
theorem g_irem (B : gB Y X own cc nL ret k) {a b : Int} (d : decode cc pc = .ok (.irem, 1)) (hq : pc + 1 = q) (h0 : 0 ≤ a) (h1 : a < 2147483648) (hb0 : 0 < b) (hb1 : b < 2147483648) (kk : gW Y X S q L (.int (iI (a % b)) :: st)) : gW Y X S pc L (.int (iI b) :: .int (iI a) :: st) := by
  subst hq
  intro H locs ls hH hl
  exact lv_irem B.1 B.2.1 d (fun h => by have h2 := (iI_eq (a := b) (b := 0) ⟨by omega, by omega⟩ rI_0).mp h; omega) (by rw [iI_rem h0 h1 hb0 hb1]; exact kk H locs ls hH hl)
theorem g_ldiv (B : gB Y X own cc nL ret k) {a b : Int} (d : decode cc pc = .ok (.ldiv, 1)) (hq : pc + 1 = q) (h0 : 0 ≤ a) (h1 : a < 9223372036854775808) (hb0 : 0 < b) (hb1 : b < 9223372036854775808) (kk : gW Y X S q L (.long (lI (a / b)) :: st)) : gW Y X S pc L (.long (lI b) :: .long (lI a) :: st) := by
  subst hq
  intro H locs ls hH hl
  exact lv_ldiv B.1 B.2.1 d (fun h => by have h2 := (lI_eq (a := b) (b := 0) ⟨by omega, by omega⟩ ⟨by decide, by decide⟩).mp h; omega) (by rw [lI_div h0 h1 hb0 hb1]; exact kk H locs ls hH hl)
theorem g_lrem (B : gB Y X own cc nL ret k) {a b : Int} (d : decode cc pc = .ok (.lrem, 1)) (hq : pc + 1 = q) (h0 : 0 ≤ a) (h1 : a < 9223372036854775808) (hb0 : 0 < b) (hb1 : b < 9223372036854775808) (kk : gW Y X S q L (.long (lI (a % b)) :: st)) : gW Y X S pc L (.long (lI b) :: .long (lI a) :: st) := by
  subst hq
  intro H locs ls hH hl
  exact lv_lrem B.1 B.2.1 d (fun h => by have h2 := (lI_eq (a := b) (b := 0) ⟨by omega, by omega⟩ ⟨by decide, by decide⟩).mp h; omega) (by rw [lI_rem h0 h1 hb0 hb1]; exact kk H locs ls hH hl)
theorem g_iand (B : gB Y X own cc nL ret k) {x y v : Int32} (d : decode cc pc = .ok (.iand, 1)) (hq : pc + 1 = q) (hv : x &&& y = v) (kk : gW Y X S q L (.int v :: st)) : gW Y X S pc L (.int y :: .int x :: st) := by
  subst hq
  intro H locs ls hH hl
  exact lv_iand B.1 B.2.1 d (by rw [hv]; exact kk H locs ls hH hl)
theorem g_ior (B : gB Y X own cc nL ret k) {x y v : Int32} (d : decode cc pc = .ok (.ior, 1)) (hq : pc + 1 = q) (hv : x ||| y = v) (kk : gW Y X S q L (.int v :: st)) : gW Y X S pc L (.int y :: .int x :: st) := by
  subst hq
  intro H locs ls hH hl
  exact lv_ior B.1 B.2.1 d (by rw [hv]; exact kk H locs ls hH hl)
theorem g_ixor (B : gB Y X own cc nL ret k) {x y v : Int32} (d : decode cc pc = .ok (.ixor, 1)) (hq : pc + 1 = q) (hv : x ^^^ y = v) (kk : gW Y X S q L (.int v :: st)) : gW Y X S pc L (.int y :: .int x :: st) := by
  subst hq
  intro H locs ls hH hl
  exact lv_ixor B.1 B.2.1 d (by rw [hv]; exact kk H locs ls hH hl)
theorem g_land (B : gB Y X own cc nL ret k) {x y v : Int64} (d : decode cc pc = .ok (.land, 1)) (hq : pc + 1 = q) (hv : x &&& y = v) (kk : gW Y X S q L (.long v :: st)) : gW Y X S pc L (.long y :: .long x :: st) := by
  subst hq
  intro H locs ls hH hl
  exact lv_land B.1 B.2.1 d (by rw [hv]; exact kk H locs ls hH hl)
theorem g_lor (B : gB Y X own cc nL ret k) {x y v : Int64} (d : decode cc pc = .ok (.lor, 1)) (hq : pc + 1 = q) (hv : x ||| y = v) (kk : gW Y X S q L (.long v :: st)) : gW Y X S pc L (.long y :: .long x :: st) := by
  subst hq
  intro H locs ls hH hl
  exact lv_lor B.1 B.2.1 d (by rw [hv]; exact kk H locs ls hH hl)
theorem g_lxor (B : gB Y X own cc nL ret k) {x y v : Int64} (d : decode cc pc = .ok (.lxor, 1)) (hq : pc + 1 = q) (hv : x ^^^ y = v) (kk : gW Y X S q L (.long v :: st)) : gW Y X S pc L (.long y :: .long x :: st) := by
  subst hq
  intro H locs ls hH hl
  exact lv_lxor B.1 B.2.1 d (by rw [hv]; exact kk H locs ls hH hl)
theorem g_ishl (B : gB Y X own cc nL ret k) {x y v : Int32} (d : decode cc pc = .ok (.ishl, 1)) (hq : pc + 1 = q) (hv : x <<< (y &&& 31) = v) (kk : gW Y X S q L (.int v :: st)) : gW Y X S pc L (.int y :: .int x :: st) := by
  subst hq
  intro H locs ls hH hl
  exact lv_ishl B.1 B.2.1 d (by rw [hv]; exact kk H locs ls hH hl)
theorem g_ishr (B : gB Y X own cc nL ret k) {x y v : Int32} (d : decode cc pc = .ok (.ishr, 1)) (hq : pc + 1 = q) (hv : x >>> (y &&& 31) = v) (kk : gW Y X S q L (.int v :: st)) : gW Y X S pc L (.int y :: .int x :: st) := by
  subst hq
  intro H locs ls hH hl
  exact lv_ishr B.1 B.2.1 d (by rw [hv]; exact kk H locs ls hH hl)
theorem g_iushr (B : gB Y X own cc nL ret k) {x y v : Int32} (d : decode cc pc = .ok (.iushr, 1)) (hq : pc + 1 = q) (hv : (x.toUInt32 >>> (y.toUInt32 &&& Int32.toUInt32 31)).toInt32 = v) (kk : gW Y X S q L (.int v :: st)) : gW Y X S pc L (.int y :: .int x :: st) := by
  subst hq
  intro H locs ls hH hl
  exact lv_iushr B.1 B.2.1 d hv (kk H locs ls hH hl)
theorem g_lshl (B : gB Y X own cc nL ret k) {x v : Int64} {y : Int32} (d : decode cc pc = .ok (.lshl, 1)) (hq : pc + 1 = q) (hv : x <<< (y.toInt64 &&& 63) = v) (kk : gW Y X S q L (.long v :: st)) : gW Y X S pc L (.int y :: .long x :: st) := by
  subst hq
  intro H locs ls hH hl
  exact lv_lshl B.1 B.2.1 d hv (kk H locs ls hH hl)
theorem g_lushr (B : gB Y X own cc nL ret k) {x v : Int64} {y : Int32} (d : decode cc pc = .ok (.lushr, 1)) (hq : pc + 1 = q) (hv : (x.toUInt64 >>> (y.toInt64.toUInt64 &&& Int64.toUInt64 63)).toInt64 = v) (kk : gW Y X S q L (.long v :: st)) : gW Y X S pc L (.int y :: .long x :: st) := by
  subst hq
  intro H locs ls hH hl
  exact lv_lushr B.1 B.2.1 d hv (kk H locs ls hH hl)
theorem g_i2l (B : gB Y X own cc nL ret k) {a : Int} (d : decode cc pc = .ok (.i2l, 1)) (hq : pc + 1 = q) (ha : rI a) (kk : gW Y X S q L (.long (lI a) :: st)) : gW Y X S pc L (.int (iI a) :: st) := by
  subst hq
  intro H locs ls hH hl
  exact lv_i2l B.1 B.2.1 d (iI_i2l ha) (kk H locs ls hH hl)
theorem g_l2i (B : gB Y X own cc nL ret k) {a : Int} (d : decode cc pc = .ok (.l2i, 1)) (hq : pc + 1 = q)  (kk : gW Y X S q L (.int (iI a) :: st)) : gW Y X S pc L (.long (lI a) :: st) := by
  subst hq
  intro H locs ls hH hl
  exact lv_l2i B.1 B.2.1 d (lI_l2i a) (kk H locs ls hH hl)
theorem g_i2c (B : gB Y X own cc nL ret k) {x v : Int32} (d : decode cc pc = .ok (.i2c, 1)) (hq : pc + 1 = q) (hv : (x.toUInt32 % 65536).toInt32 = v) (kk : gW Y X S q L (.int v :: st)) : gW Y X S pc L (.int x :: st) := by
  subst hq
  intro H locs ls hH hl
  exact lv_i2c B.1 B.2.1 d hv (kk H locs ls hH hl)
theorem g_dup (B : gB Y X own cc nL ret k) {va : Value} (d : decode cc pc = .ok (.dup, 1)) (hq : pc + 1 = q) (hc : va.category = 1) (kk : gW Y X S q L (va :: va :: st)) : gW Y X S pc L (va :: st) := by
  subst hq
  intro H locs ls hH hl
  exact lv_dup B.1 B.2.1 d hc (kk H locs ls hH hl)
theorem g_pop (B : gB Y X own cc nL ret k) {va : Value} (d : decode cc pc = .ok (.pop, 1)) (hq : pc + 1 = q) (hc : va.category = 1) (kk : gW Y X S q L st) : gW Y X S pc L (va :: st) := by
  subst hq
  intro H locs ls hH hl
  exact lv_pop B.1 B.2.1 d hc (kk H locs ls hH hl)
theorem g_dup_x1 (B : gB Y X own cc nL ret k) {va vb : Value} (d : decode cc pc = .ok (.dup_x1, 1)) (hq : pc + 1 = q) (hc : va.category = 1) (hc2 : vb.category = 1) (kk : gW Y X S q L (va :: vb :: va :: st)) : gW Y X S pc L (va :: vb :: st) := by
  subst hq
  intro H locs ls hH hl
  exact lv_dup_x1 B.1 B.2.1 d hc hc2 (kk H locs ls hH hl)
theorem g_dup2 (B : gB Y X own cc nL ret k) {va vb : Value} (d : decode cc pc = .ok (.dup2, 1)) (hq : pc + 1 = q) (hc : va.category = 1) (hc2 : vb.category = 1) (kk : gW Y X S q L (va :: vb :: va :: vb :: st)) : gW Y X S pc L (va :: vb :: st) := by
  subst hq
  intro H locs ls hH hl
  exact lv_dup2_11 B.1 B.2.1 d hc hc2 (kk H locs ls hH hl)
theorem g_dup2l (B : gB Y X own cc nL ret k) {va : Value} (d : decode cc pc = .ok (.dup2, 1)) (hq : pc + 1 = q) (hc : va.category = 2) (kk : gW Y X S q L (va :: va :: st)) : gW Y X S pc L (va :: st) := by
  subst hq
  intro H locs ls hH hl
  exact lv_dup2_2 B.1 B.2.1 d hc (kk H locs ls hH hl)
theorem g_goto (B : gB Y X own cc nL ret k) {off : Int} (d : decode cc pc = .ok (.goto off, 3)) (hq : (pc : Int) + off = (q : Int)) (kk : gW Y X S q L st) : gW Y X S pc L st := by
  intro H locs ls hH hl
  exact lv_goto B.1 B.2.1 d hq (kk H locs ls hH hl)
theorem g_icmp_eq (B : gB Y X own cc nL ret k) {a b off : Int} {t : Nat} (d : decode cc pc = .ok (.if_icmp .eq off, 3)) (ht : (pc : Int) + off = (t : Int)) (hq : pc + 3 = q) (ha : rI a) (hb : rI b) (kt : a = b → gW Y X S t L st) (kf : ¬ (a = b) → gW Y X S q L st) : gW Y X S pc L (.int (iI b) :: .int (iI a) :: st) := by
  subst hq
  intro H locs ls hH hl
  exact lv_icmp_eq B.1 B.2.1 d ht (fun h => kt ((iI_eq ha hb).mp h) H locs ls hH hl) (fun h => kf (fun z => h ((iI_eq ha hb).mpr z)) H locs ls hH hl)
theorem g_if_eq (B : gB Y X own cc nL ret k) {a off : Int} {t : Nat} (d : decode cc pc = .ok (.ifCond .eq off, 3)) (ht : (pc : Int) + off = (t : Int)) (hq : pc + 3 = q) (ha : rI a) (kt : a = 0 → gW Y X S t L st) (kf : ¬ (a = 0) → gW Y X S q L st) : gW Y X S pc L (.int (iI a) :: st) := by
  subst hq
  intro H locs ls hH hl
  exact lv_if_eq B.1 B.2.1 d ht (fun h => kt ((iI_eq ha rI_0).mp h) H locs ls hH hl) (fun h => kf (fun z => h ((iI_eq ha rI_0).mpr z)) H locs ls hH hl)
theorem g_icmp_lt (B : gB Y X own cc nL ret k) {a b off : Int} {t : Nat} (d : decode cc pc = .ok (.if_icmp .lt off, 3)) (ht : (pc : Int) + off = (t : Int)) (hq : pc + 3 = q) (ha : rI a) (hb : rI b) (kt : a < b → gW Y X S t L st) (kf : ¬ (a < b) → gW Y X S q L st) : gW Y X S pc L (.int (iI b) :: .int (iI a) :: st) := by
  subst hq
  intro H locs ls hH hl
  exact lv_icmp_lt B.1 B.2.1 d ht (fun h => kt ((iI_lt ha hb).mp h) H locs ls hH hl) (fun h => kf (fun z => h ((iI_lt ha hb).mpr z)) H locs ls hH hl)
theorem g_if_lt (B : gB Y X own cc nL ret k) {a off : Int} {t : Nat} (d : decode cc pc = .ok (.ifCond .lt off, 3)) (ht : (pc : Int) + off = (t : Int)) (hq : pc + 3 = q) (ha : rI a) (kt : a < 0 → gW Y X S t L st) (kf : ¬ (a < 0) → gW Y X S q L st) : gW Y X S pc L (.int (iI a) :: st) := by
  subst hq
  intro H locs ls hH hl
  exact lv_if_lt B.1 B.2.1 d ht (fun h => kt ((iI_lt ha rI_0).mp h) H locs ls hH hl) (fun h => kf (fun z => h ((iI_lt ha rI_0).mpr z)) H locs ls hH hl)
theorem g_icmp_le (B : gB Y X own cc nL ret k) {a b off : Int} {t : Nat} (d : decode cc pc = .ok (.if_icmp .le off, 3)) (ht : (pc : Int) + off = (t : Int)) (hq : pc + 3 = q) (ha : rI a) (hb : rI b) (kt : a ≤ b → gW Y X S t L st) (kf : ¬ (a ≤ b) → gW Y X S q L st) : gW Y X S pc L (.int (iI b) :: .int (iI a) :: st) := by
  subst hq
  intro H locs ls hH hl
  exact lv_icmp_le B.1 B.2.1 d ht (fun h => kt ((iI_le ha hb).mp h) H locs ls hH hl) (fun h => kf (fun z => h ((iI_le ha hb).mpr z)) H locs ls hH hl)
theorem g_if_le (B : gB Y X own cc nL ret k) {a off : Int} {t : Nat} (d : decode cc pc = .ok (.ifCond .le off, 3)) (ht : (pc : Int) + off = (t : Int)) (hq : pc + 3 = q) (ha : rI a) (kt : a ≤ 0 → gW Y X S t L st) (kf : ¬ (a ≤ 0) → gW Y X S q L st) : gW Y X S pc L (.int (iI a) :: st) := by
  subst hq
  intro H locs ls hH hl
  exact lv_if_le B.1 B.2.1 d ht (fun h => kt ((iI_le ha rI_0).mp h) H locs ls hH hl) (fun h => kf (fun z => h ((iI_le ha rI_0).mpr z)) H locs ls hH hl)
theorem g_icmp_gt (B : gB Y X own cc nL ret k) {a b off : Int} {t : Nat} (d : decode cc pc = .ok (.if_icmp .gt off, 3)) (ht : (pc : Int) + off = (t : Int)) (hq : pc + 3 = q) (ha : rI a) (hb : rI b) (kt : b < a → gW Y X S t L st) (kf : ¬ (b < a) → gW Y X S q L st) : gW Y X S pc L (.int (iI b) :: .int (iI a) :: st) := by
  subst hq
  intro H locs ls hH hl
  exact lv_icmp_gt B.1 B.2.1 d ht (fun h => kt ((iI_lt hb ha).mp h) H locs ls hH hl) (fun h => kf (fun z => h ((iI_lt hb ha).mpr z)) H locs ls hH hl)
theorem g_if_gt (B : gB Y X own cc nL ret k) {a off : Int} {t : Nat} (d : decode cc pc = .ok (.ifCond .gt off, 3)) (ht : (pc : Int) + off = (t : Int)) (hq : pc + 3 = q) (ha : rI a) (kt : 0 < a → gW Y X S t L st) (kf : ¬ (0 < a) → gW Y X S q L st) : gW Y X S pc L (.int (iI a) :: st) := by
  subst hq
  intro H locs ls hH hl
  exact lv_if_gt B.1 B.2.1 d ht (fun h => kt ((iI_lt rI_0 ha).mp h) H locs ls hH hl) (fun h => kf (fun z => h ((iI_lt rI_0 ha).mpr z)) H locs ls hH hl)
theorem g_icmp_ge (B : gB Y X own cc nL ret k) {a b off : Int} {t : Nat} (d : decode cc pc = .ok (.if_icmp .ge off, 3)) (ht : (pc : Int) + off = (t : Int)) (hq : pc + 3 = q) (ha : rI a) (hb : rI b) (kt : b ≤ a → gW Y X S t L st) (kf : ¬ (b ≤ a) → gW Y X S q L st) : gW Y X S pc L (.int (iI b) :: .int (iI a) :: st) := by
  subst hq
  intro H locs ls hH hl
  exact lv_icmp_ge B.1 B.2.1 d ht (fun h => kt ((iI_le hb ha).mp h) H locs ls hH hl) (fun h => kf (fun z => h ((iI_le hb ha).mpr z)) H locs ls hH hl)
theorem g_if_ge (B : gB Y X own cc nL ret k) {a off : Int} {t : Nat} (d : decode cc pc = .ok (.ifCond .ge off, 3)) (ht : (pc : Int) + off = (t : Int)) (hq : pc + 3 = q) (ha : rI a) (kt : 0 ≤ a → gW Y X S t L st) (kf : ¬ (0 ≤ a) → gW Y X S q L st) : gW Y X S pc L (.int (iI a) :: st) := by
  subst hq
  intro H locs ls hH hl
  exact lv_if_ge B.1 B.2.1 d ht (fun h => kt ((iI_le rI_0 ha).mp h) H locs ls hH hl) (fun h => kf (fun z => h ((iI_le rI_0 ha).mpr z)) H locs ls hH hl)
theorem g_icmp_ne (B : gB Y X own cc nL ret k) {a b off : Int} {t : Nat} (d : decode cc pc = .ok (.if_icmp .ne off, 3)) (ht : (pc : Int) + off = (t : Int)) (hq : pc + 3 = q) (ha : rI a) (hb : rI b) (kt : ¬ a = b → gW Y X S t L st) (kf : a = b → gW Y X S q L st) : gW Y X S pc L (.int (iI b) :: .int (iI a) :: st) := by
  subst hq
  intro H locs ls hH hl
  exact lv_icmp_ne B.1 B.2.1 d ht (fun h => kt (fun z => h ((iI_eq ha hb).mpr z)) H locs ls hH hl) (fun h => kf ((iI_eq ha hb).mp h) H locs ls hH hl)
theorem g_if_ne (B : gB Y X own cc nL ret k) {a off : Int} {t : Nat} (d : decode cc pc = .ok (.ifCond .ne off, 3)) (ht : (pc : Int) + off = (t : Int)) (hq : pc + 3 = q) (ha : rI a) (kt : ¬ a = 0 → gW Y X S t L st) (kf : a = 0 → gW Y X S q L st) : gW Y X S pc L (.int (iI a) :: st) := by
  subst hq
  intro H locs ls hH hl
  exact lv_if_ne B.1 B.2.1 d ht (fun h => kt (fun z => h ((iI_eq ha rI_0).mpr z)) H locs ls hH hl) (fun h => kf ((iI_eq ha rI_0).mp h) H locs ls hH hl)
theorem g_ifb_eq (B : gB Y X own cc nL ret k) {P : Prop} [Decidable P] {off : Int} {t : Nat} (d : decode cc pc = .ok (.ifCond .eq off, 3)) (ht : (pc : Int) + off = (t : Int)) (hq : pc + 3 = q) (kt : ¬ P → gW Y X S t L st) (kf : P → gW Y X S q L st) : gW Y X S pc L (.int (bI P) :: st) := by
  subst hq
  intro H locs ls hH hl
  exact lv_if_eq B.1 B.2.1 d ht (fun h => kt (fun z => by rw [bI_t z] at h; exact absurd h (by decide)) H locs ls hH hl) (fun h => kf (Decidable.byContradiction fun z => h (bI_f z)) H locs ls hH hl)
theorem g_ifb_ne (B : gB Y X own cc nL ret k) {P : Prop} [Decidable P] {off : Int} {t : Nat} (d : decode cc pc = .ok (.ifCond .ne off, 3)) (ht : (pc : Int) + off = (t : Int)) (hq : pc + 3 = q) (kt : P → gW Y X S t L st) (kf : ¬ P → gW Y X S q L st) : gW Y X S pc L (.int (bI P) :: st) := by
  subst hq
  intro H locs ls hH hl
  exact lv_if_ne B.1 B.2.1 d ht (fun h => kt (Decidable.byContradiction fun z => h (bI_f z)) H locs ls hH hl) (fun h => kf (fun z => by rw [bI_t z] at h; exact absurd h (by decide)) H locs ls hH hl)
theorem g_lcmp_gt (B : gB Y X own cc nL ret k) {a b off : Int} {t : Nat} (d1 : decode cc pc = .ok (.lcmp, 1)) (d : decode cc (pc + 1) = .ok (.ifCond .gt off, 3)) (ht : ((pc + 1 : Nat) : Int) + off = (t : Int)) (hq : pc + 4 = q) (ha : rL a) (hb : rL b) (kt : b < a → gW Y X S t L st) (kf : ¬ (b < a) → gW Y X S q L st) : gW Y X S pc L (.long (lI b) :: .long (lI a) :: st) := by
  subst hq
  intro H locs ls hH hl
  have e : ∀ x y : Int64, (0 < lg_cmp x y ↔ y < x) := by
    intro x y
    unfold lg_cmp
    simp only [gt_iff_lt, Int64.lt_iff_toInt_lt, Int64.le_iff_toInt_le, ← Int64.toInt_inj]
    rcases Int.lt_trichotomy x.toInt y.toInt with h | h | h
    · rw [if_neg (by omega), if_neg (by omega)]; constructor <;> intro z <;> first | omega | (exact absurd z (by decide)) | decide
    · rw [if_neg (by omega), if_pos (by omega)]; constructor <;> intro z <;> first | omega | (exact absurd z (by decide)) | decide
    · rw [if_pos (by omega)]; constructor <;> intro z <;> first | omega | (exact absurd z (by decide)) | decide
  exact W.lcmp B.1 B.2.1 d1 (lv_if_gt B.1 B.2.1 d ht (fun h => kt ((lI_lt hb ha).mp ((e _ _).mp h)) H locs ls hH hl) (fun h => kf (fun z => h ((e _ _).mpr ((lI_lt hb ha).mpr z))) H locs ls hH hl))
theorem g_lcmp_ge (B : gB Y X own cc nL ret k) {a b off : Int} {t : Nat} (d1 : decode cc pc = .ok (.lcmp, 1)) (d : decode cc (pc + 1) = .ok (.ifCond .ge off, 3)) (ht : ((pc + 1 : Nat) : Int) + off = (t : Int)) (hq : pc + 4 = q) (ha : rL a) (hb : rL b) (kt : b ≤ a → gW Y X S t L st) (kf : ¬ (b ≤ a) → gW Y X S q L st) : gW Y X S pc L (.long (lI b) :: .long (lI a) :: st) := by
  subst hq
  intro H locs ls hH hl
  have e : ∀ x y : Int64, (0 ≤ lg_cmp x y ↔ y ≤ x) := by
    intro x y
    unfold lg_cmp
    simp only [gt_iff_lt, Int64.lt_iff_toInt_lt, Int64.le_iff_toInt_le, ← Int64.toInt_inj]
    rcases Int.lt_trichotomy x.toInt y.toInt with h | h | h
    · rw [if_neg (by omega), if_neg (by omega)]; constructor <;> intro z <;> first | omega | (exact absurd z (by decide)) | decide
    · rw [if_neg (by omega), if_pos (by omega)]; constructor <;> intro z <;> first | omega | (exact absurd z (by decide)) | decide
    · rw [if_pos (by omega)]; constructor <;> intro z <;> first | omega | (exact absurd z (by decide)) | decide
  exact W.lcmp B.1 B.2.1 d1 (lv_if_ge B.1 B.2.1 d ht (fun h => kt ((lI_le hb ha).mp ((e _ _).mp h)) H locs ls hH hl) (fun h => kf (fun z => h ((e _ _).mpr ((lI_le hb ha).mpr z))) H locs ls hH hl))
theorem g_lcmp_lt (B : gB Y X own cc nL ret k) {a b off : Int} {t : Nat} (d1 : decode cc pc = .ok (.lcmp, 1)) (d : decode cc (pc + 1) = .ok (.ifCond .lt off, 3)) (ht : ((pc + 1 : Nat) : Int) + off = (t : Int)) (hq : pc + 4 = q) (ha : rL a) (hb : rL b) (kt : a < b → gW Y X S t L st) (kf : ¬ (a < b) → gW Y X S q L st) : gW Y X S pc L (.long (lI b) :: .long (lI a) :: st) := by
  subst hq
  intro H locs ls hH hl
  have e : ∀ x y : Int64, (lg_cmp x y < 0 ↔ x < y) := by
    intro x y
    unfold lg_cmp
    simp only [gt_iff_lt, Int64.lt_iff_toInt_lt, Int64.le_iff_toInt_le, ← Int64.toInt_inj]
    rcases Int.lt_trichotomy x.toInt y.toInt with h | h | h
    · rw [if_neg (by omega), if_neg (by omega)]; constructor <;> intro z <;> first | omega | (exact absurd z (by decide)) | decide
    · rw [if_neg (by omega), if_pos (by omega)]; constructor <;> intro z <;> first | omega | (exact absurd z (by decide)) | decide
    · rw [if_pos (by omega)]; constructor <;> intro z <;> first | omega | (exact absurd z (by decide)) | decide
  exact W.lcmp B.1 B.2.1 d1 (lv_if_lt B.1 B.2.1 d ht (fun h => kt ((lI_lt ha hb).mp ((e _ _).mp h)) H locs ls hH hl) (fun h => kf (fun z => h ((e _ _).mpr ((lI_lt ha hb).mpr z))) H locs ls hH hl))
theorem g_lcmp_le (B : gB Y X own cc nL ret k) {a b off : Int} {t : Nat} (d1 : decode cc pc = .ok (.lcmp, 1)) (d : decode cc (pc + 1) = .ok (.ifCond .le off, 3)) (ht : ((pc + 1 : Nat) : Int) + off = (t : Int)) (hq : pc + 4 = q) (ha : rL a) (hb : rL b) (kt : a ≤ b → gW Y X S t L st) (kf : ¬ (a ≤ b) → gW Y X S q L st) : gW Y X S pc L (.long (lI b) :: .long (lI a) :: st) := by
  subst hq
  intro H locs ls hH hl
  have e : ∀ x y : Int64, (lg_cmp x y ≤ 0 ↔ x ≤ y) := by
    intro x y
    unfold lg_cmp
    simp only [gt_iff_lt, Int64.lt_iff_toInt_lt, Int64.le_iff_toInt_le, ← Int64.toInt_inj]
    rcases Int.lt_trichotomy x.toInt y.toInt with h | h | h
    · rw [if_neg (by omega), if_neg (by omega)]; constructor <;> intro z <;> first | omega | (exact absurd z (by decide)) | decide
    · rw [if_neg (by omega), if_pos (by omega)]; constructor <;> intro z <;> first | omega | (exact absurd z (by decide)) | decide
    · rw [if_pos (by omega)]; constructor <;> intro z <;> first | omega | (exact absurd z (by decide)) | decide
  exact W.lcmp B.1 B.2.1 d1 (lv_if_le B.1 B.2.1 d ht (fun h => kt ((lI_le ha hb).mp ((e _ _).mp h)) H locs ls hH hl) (fun h => kf (fun z => h ((e _ _).mpr ((lI_le ha hb).mpr z))) H locs ls hH hl))
theorem g_lcmp_eq (B : gB Y X own cc nL ret k) {a b off : Int} {t : Nat} (d1 : decode cc pc = .ok (.lcmp, 1)) (d : decode cc (pc + 1) = .ok (.ifCond .eq off, 3)) (ht : ((pc + 1 : Nat) : Int) + off = (t : Int)) (hq : pc + 4 = q) (ha : rL a) (hb : rL b) (kt : a = b → gW Y X S t L st) (kf : ¬ (a = b) → gW Y X S q L st) : gW Y X S pc L (.long (lI b) :: .long (lI a) :: st) := by
  subst hq
  intro H locs ls hH hl
  have e : ∀ x y : Int64, (lg_cmp x y = 0 ↔ x = y) := by
    intro x y
    unfold lg_cmp
    simp only [gt_iff_lt, Int64.lt_iff_toInt_lt, Int64.le_iff_toInt_le, ← Int64.toInt_inj]
    rcases Int.lt_trichotomy x.toInt y.toInt with h | h | h
    · rw [if_neg (by omega), if_neg (by omega)]; constructor <;> intro z <;> first | omega | (exact absurd z (by decide)) | decide
    · rw [if_neg (by omega), if_pos (by omega)]; constructor <;> intro z <;> first | omega | (exact absurd z (by decide)) | decide
    · rw [if_pos (by omega)]; constructor <;> intro z <;> first | omega | (exact absurd z (by decide)) | decide
  exact W.lcmp B.1 B.2.1 d1 (lv_if_eq B.1 B.2.1 d ht (fun h => kt ((lI_eq ha hb).mp ((e _ _).mp h)) H locs ls hH hl) (fun h => kf (fun z => h ((e _ _).mpr ((lI_eq ha hb).mpr z))) H locs ls hH hl))
theorem g_lcmp_ne (B : gB Y X own cc nL ret k) {a b off : Int} {t : Nat} (d1 : decode cc pc = .ok (.lcmp, 1)) (d : decode cc (pc + 1) = .ok (.ifCond .ne off, 3)) (ht : ((pc + 1 : Nat) : Int) + off = (t : Int)) (hq : pc + 4 = q) (ha : rL a) (hb : rL b) (kt : ¬ a = b → gW Y X S t L st) (kf : a = b → gW Y X S q L st) : gW Y X S pc L (.long (lI b) :: .long (lI a) :: st) := by
  subst hq
  intro H locs ls hH hl
  have e : ∀ x y : Int64, (¬ lg_cmp x y = 0 ↔ ¬ x = y) := by
    intro x y
    unfold lg_cmp
    simp only [gt_iff_lt, Int64.lt_iff_toInt_lt, Int64.le_iff_toInt_le, ← Int64.toInt_inj]
    rcases Int.lt_trichotomy x.toInt y.toInt with h | h | h
    · rw [if_neg (by omega), if_neg (by omega)]; constructor <;> intro z <;> first | omega | (exact absurd z (by decide)) | decide
    · rw [if_neg (by omega), if_pos (by omega)]; constructor <;> intro z <;> first | omega | (exact absurd z (by decide)) | decide
    · rw [if_pos (by omega)]; constructor <;> intro z <;> first | omega | (exact absurd z (by decide)) | decide
  exact W.lcmp B.1 B.2.1 d1 (lv_if_ne B.1 B.2.1 d ht (fun h => kt (fun z => (e _ _).mp h ((lI_eq ha hb).mpr z)) H locs ls hH hl) (fun h => kf (Decidable.byContradiction fun z => (e _ _).mpr (fun y => z ((lI_eq ha hb).mp y)) h) H locs ls hH hl))
theorem g_tsIn (B : gB Y X own cc nL ret k) {dflt lo hi off : Int} {offs : Array Int} {len : Nat} {a : Int} (v : Int) (d : decode cc pc = .ok (.tableswitch dflt lo hi offs, len)) (h : a = v) (hr : lo ≤ v ∧ v ≤ hi ∧ rI v) (ho : offs[(v - lo).toNat]? = some off) (ht : (pc : Int) + off = (q : Int)) (kk : gW Y X S q L st) : gW Y X S pc L (.int (iI a) :: st) := by
  subst h
  intro H locs ls hH hl
  obtain ⟨h1, h2, h3⟩ := hr
  have e := iI_toInt h3
  exact lv_tableIn B.1 B.2.1 d (by rw [e]; omega) (by rw [e]; omega) (by rw [e]; exact ho) ht (kk H locs ls hH hl)
theorem g_tsOut (B : gB Y X own cc nL ret k) {dflt lo hi : Int} {offs : Array Int} {len : Nat} {a : Int} (d : decode cc pc = .ok (.tableswitch dflt lo hi offs, len)) (h : a < lo ∨ hi < a) (hr : rI a) (ht : (pc : Int) + dflt = (q : Int)) (kk : gW Y X S q L st) : gW Y X S pc L (.int (iI a) :: st) := by
  intro H locs ls hH hl
  exact lv_tableOut B.1 B.2.1 d (by rw [iI_toInt hr]; exact h) ht (kk H locs ls hH hl)
theorem g_lsw (B : gB Y X own cc nL ret k) {dflt off : Int} {ps : Array (Int × Int)} {len : Nat} {a : Int} (d : decode cc pc = .ok (.lookupswitch dflt ps, len)) (hp : (ps.toList.zip (ps.toList.drop 1)).all (fun (a, next) => a.1 < next.1) = true) (hr : rI a) (ho : Op.lookupswitch.offset ps.toList dflt a = off) (ht : (pc : Int) + off = (q : Int)) (kk : gW Y X S q L st) : gW Y X S pc L (.int (iI a) :: st) := by
  intro H locs ls hH hl
  exact lv_lookup B.1 B.2.1 d hp (by rw [iI_toInt hr]; exact ho) ht (kk H locs ls hH hl)
theorem g_ifnull (B : gB Y X own cc nL ret k) {x : Nat} {off : Int} (d : decode cc pc = .ok (.ifnull off, 3)) (hq : pc + 3 = q)  (kk : gW Y X S q L st) : gW Y X S pc L (.ref x :: st) := by
  subst hq
  intro H locs ls hH hl
  exact lv_ifnull B.1 B.2.1 d (kk H locs ls hH hl)
theorem g_ifnonnull (B : gB Y X own cc nL ret k) {x : Nat} {off : Int} (d : decode cc pc = .ok (.ifnonnull off, 3)) (ht : (pc : Int) + off = (q : Int)) (kk : gW Y X S q L st) : gW Y X S pc L (.ref x :: st) := by
  intro H locs ls hH hl
  exact lv_ifnonnull B.1 B.2.1 d ht (kk H locs ls hH hl)
end GR
end
section
def gCls (ci : Nat) (C : String) (T : u_T) (N : Nat) (ty : Nat → FieldType) : Prop :=
  vwCl[ci]? = some (C, T, N) ∧ (∀ w ∈ u_ws C T N, w ∈ lw_g) ∧ (∀ k, k < N → parseFieldDescriptor (T k).2.2.1 = some (ty k)) ∧ ∀ a, a < N → ∀ b, b < N → a ≠ b → (T a).2.1 ≠ (T b).2.1
theorem lw_gsub {ws : List Cond} (h : (ws.all fun w => decide (w ∈ lw_tbl) && goodWord w) = true) : ∀ w ∈ ws, w ∈ lw_g := fun w hw => by
  have h1 := List.all_eq_true.mp h w hw
  simp only [Bool.and_eq_true, decide_eq_true_eq] at h1
  exact lw_gin h1.1 h1.2
theorem cls0 : gCls 0 RX0 TX0 4 tyX0 := ⟨rfl, lw_gsub (by decide +kernel), tyX0_ok, nmX0⟩
theorem cls1 : gCls 1 RX1 TX1 3 tyX1 := ⟨rfl, lw_gsub (by decide +kernel), tyX1_ok, nmX1⟩
theorem cls2 : gCls 2 RX2 TX2 9 tyX2 := ⟨rfl, lw_gsub (by decide +kernel), tyX2_ok, nmX2⟩
theorem cls3 : gCls 3 RX5 TX5 2 tyX5 := ⟨rfl, lw_gsub (by decide +kernel), tyX5_ok, nmX5⟩
theorem cls4 : gCls 4 RX6 TX6 2 tyX6 := ⟨rfl, lw_gsub (by decide +kernel), tyX6_ok, nmX6⟩
theorem cls5 : gCls 5 RX7 TX7 7 tyX7 := ⟨rfl, lw_gsub (by decide +kernel), tyX7_ok, nmX7⟩
theorem cls6 : gCls 6 RX8 TX8 13 tyX8 := ⟨rfl, lw_gsub (by decide +kernel), tyX8_ok, nmX8⟩
section GM
variable {Y : gY} {X : gX} {S : SS} {own : String} {cc : ByteArray} {nL : Nat} {ret : Option FieldType} {k : Nat} {pc q : Nat} {L L' : List (Nat × Value)} {st : List Value}
theorem gH_put {s : State} {H H1 : Heap} {locs : List Loc} {n : Nat} {g : Int → Int} {e0 e : va_E} (hI : gI Y) (hH : gH Y s H locs S) (he0 : cw Y n (S n) = some e0) (he : cw Y n g = some e) (z : H1.size = H.size) (oq : ∀ q : Nat, q ≠ yA Y n → H1[q]? = H[q]?) (hat : va_at (yD Y) vwCl (yA Y n, e) H1) (j : Nat) : gH Y s H1 (locs ++ [⟨yA Y n, j⟩]) (us S n g) := by
  obtain ⟨h1, h2, h3, h4⟩ := hH
  refine ⟨fun m e' hm => ?_, by rw [z]; exact h2, fun q hq => ?_, fun lc hl => ?_⟩
  · by_cases hmn : m = n
    · subst hmn
      rw [us_eq, he] at hm
      cases hm
      exact hat
    · rw [us_ne _ _ hmn] at hm
      exact (h1 m e' hm).kept (oq _ fun z => hmn (hI.1 _ _ z))
  · rw [oq q (fun z => by have := hI.2 n; omega)]
    exact h3 q hq
  · rcases List.mem_append.mp hl with h | h
    · exact h4 lc h
    · rw [List.mem_singleton.mp h]
      exact hI.2 n
theorem g_get (B : gB Y X own cc nL ret k) {n i ci : Nat} {C : String} {T : u_T} {N : Nat} {ty : Nat → FieldType} {fs : List Value} {v : Value} (d : decode cc pc = .ok (.getfield i, 3)) (hq : pc + 3 = q) {g : Int → Int} (hg : S n = g) (he : cw Y n g = some (.inr (ci, fs))) (hc : gCls ci C T N ty) (f : Nat) (hf : f < N) (hw : Cond.fieldLink own i (T f).1 (T f).2.1 (T f).2.2.1 ∈ lw_g) (hv : fs[f]? = some v) (kk : gW Y X S q L (v :: st)) : gW Y X S pc L (.ref (yA Y n) :: st) := by
  subst hq
  intro H locs ls hH hl
  have hP : va_P (yD Y) vwCl [(yA Y n, .inr (ci, fs))] H := fun j q0 hj => by
    cases j with
    | zero => cases hj; exact hH.1 n _ (by rw [hg]; exact he)
    | succ j => simp at hj
  exact va_get B.1 B.2.1 B.2.2.2.2.2.1 hc.2.1 B.2.2.2.2.1 B.2.2.2.2.2.2.1.2.1 hP 0 rfl hc.1 f hf (B.2.2.2.2.2.1 _ hw) (fun _ h9 => h9) hv d (kk H locs ls hH hl)
theorem g_put (B : gB Y X own cc nL ret k) {n i ci : Nat} {C : String} {T : u_T} {N : Nat} {ty : Nat → FieldType} {fs : List Value} {v : Value} (d : decode cc pc = .ok (.putfield i, 3)) (hq : pc + 3 = q) {g : Int → Int} (hg : S n = g) (he : cw Y n g = some (.inr (ci, fs))) (hc : gCls ci C T N ty) (f : Nat) (hf : f < N) (hw : Cond.fieldLink own i (T f).1 (T f).2.1 (T f).2.2.1 ∈ lw_g) (hfin : (T f).2.2.2 = false) (hn : narrow (ty f) v = v) (hfit : fits (ty f) v = true) (hlen : f < fs.length) (g' : Int → Int) (he' : cw Y n g' = some (.inr (ci, fs.set f v))) (kk : gW Y X (us S n g') q L st) : gW Y X S pc L (v :: .ref (yA Y n) :: st) := by
  subst hq
  intro H locs ls hH hl
  have hC := B.2.2.2.2.2.2.1
  have hK := hC.2.1
  have hts := B.2.2.2.2.2.1
  have hat := hH.1 n _ (by rw [hg]; exact he)
  have hap := va_apart (own := own) hts hc.2.1 ty hc.2.2.1 hc.2.2.2 hK hc.1
  obtain ⟨r, h1, cell, q1, q2, q3, q4⟩ := hat
  have hr : r = (C, T, N) := Option.some.inj (h1.symm.trans hc.1)
  subst hr
  obtain ⟨hS, hfc, kC, hkC, hkind⟩ := hK.1 ci _ hc.1
  obtain ⟨cf, kf, fi, fl, hi, hsl⟩ := hS f hf
  have hlay := hts _ (hc.2.1 _ (u_in_lay hf))
  unfold u_lay at hlay
  rw [if_neg (by rw [hfin]; decide)] at hlay
  have hst := (u_facts hfc hkC (u_lays hts hc.2.1 hf) hi).1
  have h6 := u_store hfc hkC hkind hlay hi (hc.2.2.1 f hf) hn hfit
  refine W.putK B.1 B.2.1 (f := fl) ⟨B.2.2.2.2.1, hts _ hw, ⟨_, _, _, hi⟩, hst⟩ (by rw [q2]; exact h6) q1 q3 (by rw [hsl]; exact k2_hasslot (q4 f hf)) rfl rfl d fun H' e1 e2 e3 => ?_
  rw [hsl] at e1 ⊢
  exact kk H' _ ls (gH_put hC.1 hH (by rw [hg]; exact he) he' e2 e3 ⟨_, hc.1, t_OB.to (V := updV (vp_V fs) f v) ⟨_, e1, q2, q3, t_set q4 hap hf v⟩ (fun j _ => vp_updV_set hlen v j)⟩ _) hl
theorem g_in {a : Int} {N : Nat} (h0 : 0 ≤ a) (h1 : a < N) (hN : N < 2147483648) : vp_in (iI a) N ∧ (iI a).toNatClampNeg = a.toNat ∧ ((a.toNat : Nat) : Int) = a := ⟨iI_in h0 h1 hN, iI_clamp ⟨by omega, by omega⟩, Int.toNat_of_nonneg h0⟩
theorem g_ty (B : gB Y X own cc nL ret k) (t0 : Nat) {q : ClassId × FieldType} (h : (gTys Y)[t0]? = some q) : ArrOfT (xS X) q.1 q.2 := (B.2.2.2.2.2.2.1.2.1.2 t0 q h).1
theorem g_iald (B : gB Y X own cc nL ret k) {n N : Nat} {a : Int} (d : decode cc pc = .ok (.iaload, 1)) (hq : pc + 1 = q) {g : Int → Int} (hg : S n = g) (he : cw Y n g = some (cI Y N g)) (hN : N < 2147483648) (h0 : 0 ≤ a) (h1 : a < N) (kk : gW Y X S q L (.int (iI (g a)) :: st)) : gW Y X S pc L (.int (iI a) :: .ref (yA Y n) :: st) := by
  subst hq
  intro H locs ls hH hl
  obtain ⟨hin, hc, hn⟩ := g_in h0 h1 hN
  have hP : va_P (yD Y) vwCl [(yA Y n, cI Y N g)] H := fun j q0 hj => by
    cases j with
    | zero => cases hj; exact hH.1 n _ (by rw [hg]; exact he)
    | succ j => simp at hj
  refine va_iald B.1 B.2.1 B.2.2.2.2.2.2.1.2.1 hP 0 0 rfl rfl hin d ?_
  rw [hc, hn]
  exact kk H locs ls hH hl
theorem g_zald (B : gB Y X own cc nL ret k) {n N : Nat} {a : Int} (d : decode cc pc = .ok (.baload, 1)) (hq : pc + 1 = q) {g : Int → Int} (hg : S n = g) (he : cw Y n g = some (.inl (yC Y 3, N, .inl fun j => iI (g j)))) (hN : N < 2147483648) (h0 : 0 ≤ a) (h1 : a < N) (kk : gW Y X S q L (.int (iI (g a)) :: st)) : gW Y X S pc L (.int (iI a) :: .ref (yA Y n) :: st) := by
  subst hq
  intro H locs ls hH hl
  obtain ⟨hin, hc, hn⟩ := g_in h0 h1 hN
  have hP : va_P (yD Y) vwCl [(yA Y n, .inl (yC Y 3, N, .inl fun j => iI (g j)))] H := fun j q0 hj => by
    cases j with
    | zero => cases hj; exact hH.1 n _ (by rw [hg]; exact he)
    | succ j => simp at hj
  refine va_zald B.1 B.2.1 B.2.2.2.2.2.2.1.2.1 hP 0 3 rfl rfl hin d ?_
  rw [hc, hn]
  exact kk H locs ls hH hl
theorem g_cald (B : gB Y X own cc nL ret k) {n N : Nat} {a : Int} (d : decode cc pc = .ok (.caload, 1)) (hq : pc + 1 = q) {g : Int → Int} (hg : S n = g) (he : cw Y n g = some (.inl (yC Y 1, N, .inl fun j => iI (g j)))) (hN : N < 2147483648) (h0 : 0 ≤ a) (h1 : a < N) (kk : gW Y X S q L (.int (iI (g a)) :: st)) : gW Y X S pc L (.int (iI a) :: .ref (yA Y n) :: st) := by
  subst hq
  intro H locs ls hH hl
  obtain ⟨hin, hc, hn⟩ := g_in h0 h1 hN
  have hP : va_P (yD Y) vwCl [(yA Y n, .inl (yC Y 1, N, .inl fun j => iI (g j)))] H := fun j q0 hj => by
    cases j with
    | zero => cases hj; exact hH.1 n _ (by rw [hg]; exact he)
    | succ j => simp at hj
  refine va_cald B.1 B.2.1 B.2.2.2.2.2.2.1.2.1 hP 0 1 rfl rfl hin d ?_
  rw [hc, hn]
  exact kk H locs ls hH hl
theorem g_lald (B : gB Y X own cc nL ret k) {n N : Nat} {a : Int} (d : decode cc pc = .ok (.laload, 1)) (hq : pc + 1 = q) {g : Int → Int} (hg : S n = g) (he : cw Y n g = some (.inl (yC Y 2, N, .inr (.inl fun j => lI (g j))))) (hN : N < 2147483648) (h0 : 0 ≤ a) (h1 : a < N) (kk : gW Y X S q L (.long (lI (g a)) :: st)) : gW Y X S pc L (.int (iI a) :: .ref (yA Y n) :: st) := by
  subst hq
  intro H locs ls hH hl
  obtain ⟨hin, hc, hn⟩ := g_in h0 h1 hN
  have hP : va_P (yD Y) vwCl [(yA Y n, .inl (yC Y 2, N, .inr (.inl fun j => lI (g j))))] H := fun j q0 hj => by
    cases j with
    | zero => cases hj; exact hH.1 n _ (by rw [hg]; exact he)
    | succ j => simp at hj
  refine va_lald B.1 B.2.1 B.2.2.2.2.2.2.1.2.1 hP 0 2 rfl rfl hin d ?_
  rw [hc, hn]
  exact kk H locs ls hH hl
theorem g_aald (B : gB Y X own cc nL ret k) {n N : Nat} {a : Int} {f : Nat → Option Nat} (d : decode cc pc = .ok (.aaload, 1)) (hq : pc + 1 = q) {g : Int → Int} (hg : S n = g) (he : cw Y n g = some (.inl (yC Y 4, N, .inr (.inr (.inr (.inr f)))))) (hN : N < 2147483648) (h0 : 0 ≤ a) (h1 : a < N) {x : Nat} (hx : f a.toNat = some x) (kk : gW Y X S q L (.ref x :: st)) : gW Y X S pc L (.int (iI a) :: .ref (yA Y n) :: st) := by
  subst hq
  intro H locs ls hH hl
  obtain ⟨hin, hc, hn⟩ := g_in h0 h1 hN
  have hP : va_P (yD Y) vwCl [(yA Y n, .inl (yC Y 4, N, .inr (.inr (.inr (.inr f)))))] H := fun j q0 hj => by
    cases j with
    | zero => cases hj; exact hH.1 n _ (by rw [hg]; exact he)
    | succ j => simp at hj
  refine va_aldq B.1 B.2.1 B.2.2.2.2.2.2.1.2.1 hP 0 4 rfl rfl hin d ?_
  rw [hc, hx]
  exact kk H locs ls hH hl
theorem g_alen (B : gB Y X own cc nL ret k) {n : Nat} (d : decode cc pc = .ok (.arraylength, 1)) (hq : pc + 1 = q) {g : Int → Int} (hg : S n = g) {cA : ClassId} {x : vp_A} (he : cw Y n g = some (.inl (cA, x))) (t0 : Nat) {ty : FieldType} (ht : (gTys Y)[t0]? = some (cA, ty)) {z : Int} (hz : Int32.ofNat x.1 = iI z) (kk : gW Y X S q L (.int (iI z) :: st)) : gW Y X S pc L (.ref (yA Y n) :: st) := by
  subst hq
  intro H locs ls hH hl
  have hP : va_P (yD Y) vwCl [(yA Y n, .inl (cA, x))] H := fun j q0 hj => by
    cases j with
    | zero => cases hj; exact hH.1 n _ (by rw [hg]; exact he)
    | succ j => simp at hj
  exact va_alen B.1 B.2.1 B.2.2.2.2.2.2.1.2.1 hP 0 t0 rfl ht hz d (kk H locs ls hH hl)
theorem uq_fun {β : Type} (f : Int → β) (g : Int → Int) {a x : Int} (h0 : 0 ≤ a) : (fun j : Nat => f (uq g a x j)) = fun j : Nat => if j = a.toNat then f x else f (g j) := by
  funext j
  by_cases h : (j : Int) = a
  · have h2 : j = a.toNat := by omega
    rw [if_pos h2, uq, if_pos h]
  · have h2 : ¬ j = a.toNat := by omega
    rw [if_neg h2, uq, if_neg h]
theorem g_iast (B : gB Y X own cc nL ret k) {n N : Nat} {a x : Int} (d : decode cc pc = .ok (.iastore, 1)) (hq : pc + 1 = q) {g : Int → Int} (hg : S n = g) (hw : ∀ g' : Int → Int, cw Y n g' = some (cI Y N g')) (hN : N < 2147483648) (h0 : 0 ≤ a) (h1 : a < N) (kk : gW Y X (us S n (uq g a x)) q L st) : gW Y X S pc L (.int (iI x) :: .int (iI a) :: .ref (yA Y n) :: st) := by
  subst hq
  intro H locs ls hH hl
  obtain ⟨hin, hc, hn⟩ := g_in h0 h1 hN
  have hC := B.2.2.2.2.2.2.1
  have he0 : cw Y n (S n) = some (cI Y N g) := by rw [hg]; exact hw g
  refine W.iast B.1 B.2.1 (hH.1 n _ he0) (g_ty B 0 rfl N (fun j => .int (iI (g j)))) (fun q => by cases q) (by show ¬ (iI a < 0 ∨ (arrV _ _ _).slots.size ≤ _); rw [arrV_size]; exact hin) rfl rfl d fun H1 e z oq => ?_
  refine kk H1 _ ls (gH_put hC.1 hH he0 (hw _) z oq ?_ _) hl
  show H1[yA Y n]? = some (vp_cell _ _)
  rw [e]
  show some ((vp_cell (yC Y 0) (N, .inl fun j => iI (g j))).setSlot _ _) = some (vp_cell (yC Y 0) (N, .inl fun j => iI (uq g a x j)))
  rw [uq_fun iI g h0, vp_cell_i, vp_cell_i, hc, arrV_store]
  congr 2
  funext j
  by_cases h : j = a.toNat <;> simp [updV, h]
theorem g_zast (B : gB Y X own cc nL ret k) {n N : Nat} {a x : Int} (d : decode cc pc = .ok (.bastore, 1)) (hq : pc + 1 = q) {g : Int → Int} (hg : S n = g) (hw : ∀ g' : Int → Int, cw Y n g' = some (.inl (yC Y 3, N, .inl fun j => iI (g' j)))) (hN : N < 2147483648) (h0 : 0 ≤ a) (h1 : a < N) (hx : narrow .boolean (.int (iI x)) = .int (iI x)) (kk : gW Y X (us S n (uq g a x)) q L st) : gW Y X S pc L (.int (iI x) :: .int (iI a) :: .ref (yA Y n) :: st) := by
  subst hq
  intro H locs ls hH hl
  obtain ⟨hin, hc, hn⟩ := g_in h0 h1 hN
  have hC := B.2.2.2.2.2.2.1
  have he0 : cw Y n (S n) = some (.inl (yC Y 3, N, .inl fun j => iI (g j))) := by rw [hg]; exact hw g
  refine W.zast B.1 B.2.1 (hH.1 n _ he0) (g_ty B 3 rfl N (fun j => .int (iI (g j)))) (fun q => by cases q) (by show ¬ (iI a < 0 ∨ (arrV _ _ _).slots.size ≤ _); rw [arrV_size]; exact hin) rfl rfl d fun H1 e z oq => ?_
  refine kk H1 _ ls (gH_put hC.1 hH he0 (hw _) z oq ?_ _) hl
  show H1[yA Y n]? = some (vp_cell _ _)
  rw [e]
  show some ((vp_cell (yC Y 3) (N, .inl fun j => iI (g j))).setSlot _ _) = some (vp_cell (yC Y 3) (N, .inl fun j => iI (uq g a x j)))
  rw [uq_fun iI g h0, vp_cell_i, vp_cell_i, hc, arrV_store]
  congr 2
  funext j
  by_cases h : j = a.toNat <;> simp [updV, h, hx]
theorem g_cast (B : gB Y X own cc nL ret k) {n N : Nat} {a x : Int} (d : decode cc pc = .ok (.castore, 1)) (hq : pc + 1 = q) {g : Int → Int} (hg : S n = g) (hw : ∀ g' : Int → Int, cw Y n g' = some (.inl (yC Y 1, N, .inl fun j => iI (g' j)))) (hN : N < 2147483648) (h0 : 0 ≤ a) (h1 : a < N) (hx : narrow .char (.int (iI x)) = .int (iI x)) (kk : gW Y X (us S n (uq g a x)) q L st) : gW Y X S pc L (.int (iI x) :: .int (iI a) :: .ref (yA Y n) :: st) := by
  subst hq
  intro H locs ls hH hl
  obtain ⟨hin, hc, hn⟩ := g_in h0 h1 hN
  have hC := B.2.2.2.2.2.2.1
  have he0 : cw Y n (S n) = some (.inl (yC Y 1, N, .inl fun j => iI (g j))) := by rw [hg]; exact hw g
  refine W.cast B.1 B.2.1 (hH.1 n _ he0) (g_ty B 1 rfl N (fun j => .int (iI (g j)))) (fun q => by cases q) (by show ¬ (iI a < 0 ∨ (arrV _ _ _).slots.size ≤ _); rw [arrV_size]; exact hin) rfl rfl d fun H1 e z oq => ?_
  refine kk H1 _ ls (gH_put hC.1 hH he0 (hw _) z oq ?_ _) hl
  show H1[yA Y n]? = some (vp_cell _ _)
  rw [e]
  show some ((vp_cell (yC Y 1) (N, .inl fun j => iI (g j))).setSlot _ _) = some (vp_cell (yC Y 1) (N, .inl fun j => iI (uq g a x j)))
  rw [uq_fun iI g h0, vp_cell_i, vp_cell_i, hc, arrV_store]
  congr 2
  funext j
  by_cases h : j = a.toNat <;> simp [updV, h, hx]
theorem g_last (B : gB Y X own cc nL ret k) {n N : Nat} {a x : Int} (d : decode cc pc = .ok (.lastore, 1)) (hq : pc + 1 = q) {g : Int → Int} (hg : S n = g) (hw : ∀ g' : Int → Int, cw Y n g' = some (.inl (yC Y 2, N, .inr (.inl fun j => lI (g' j))))) (hN : N < 2147483648) (h0 : 0 ≤ a) (h1 : a < N) (kk : gW Y X (us S n (uq g a x)) q L st) : gW Y X S pc L (.long (lI x) :: .int (iI a) :: .ref (yA Y n) :: st) := by
  subst hq
  intro H locs ls hH hl
  obtain ⟨hin, hc, hn⟩ := g_in h0 h1 hN
  have hC := B.2.2.2.2.2.2.1
  have he0 : cw Y n (S n) = some (.inl (yC Y 2, N, .inr (.inl fun j => lI (g j)))) := by rw [hg]; exact hw g
  refine W.last B.1 B.2.1 (hH.1 n _ he0) (g_ty B 2 rfl N (fun j => .long (lI (g j)))) (fun q => by cases q) (by show ¬ (iI a < 0 ∨ (arrV _ _ _).slots.size ≤ _); rw [arrV_size]; exact hin) rfl rfl d fun H1 e z oq => ?_
  refine kk H1 _ ls (gH_put hC.1 hH he0 (hw _) z oq ?_ _) hl
  show H1[yA Y n]? = some (vp_cell _ _)
  rw [e]
  show some ((vp_cell (yC Y 2) (N, .inr (.inl fun j => lI (g j)))).setSlot _ _) = some (vp_cell (yC Y 2) (N, .inr (.inl fun j => lI (uq g a x j))))
  rw [uq_fun lI g h0, vp_cell_l, vp_cell_l, hc, arrV_store]
  congr 2
  funext j
  by_cases h : j = a.toNat <;> simp [updV, h]
end GM
end
section
section GC
variable {Y : gY} {X : gX} {S : SS} {own : String} {cc : ByteArray} {nL : Nat} {ret : Option FieldType} {k : Nat} {pc q : Nat} {L L' : List (Nat × Value)} {st : List Value}
theorem gPc_blind {S : SS} {av : List Value} : FrameBlind (gPc Y S av) := fun _ U _ _ h => ⟨h.1, gC.warm (State.WarmedH.refl U) (Nat.le_refl _) h.2.1, h.2.2⟩
theorem gPc_pre {s : State} {H : Heap} {locs : List Loc} {av : List Value} (hC : gC Y s) (hH : gH Y s H locs S) : ∀ U : State, U.heap = H → s.WarmedH U.vm → gPc Y S av av.toArray U := fun U hU hW => ⟨rfl, gC.warm hW (by rw [hU]; exact hH.2.1) hC, by rw [hU]; exact hH.1⟩
theorem g_fin {Post : Option Value → SS → Prop} {H : Heap} {locs : List Loc} {ls : Array Slot} {st0 : List Value} {a : Array Value} (hH : gH Y (xS X) H locs S) (hl : lv_has ls (xC X).maxLocals L)
    (hr : va_Run (xP X) (xL X) (xE X) (xR X) (xS X) (xM X) (xArgs X) (xBelow X) (xMeth X) (xC X) H locs (xCells X) (xSlots X) 0 0 (F0 (xM X) pc ls st0) st (gQc Y Post a) (gF Y))
    (kk : ∀ (v : Option Value) (S' : SS), Post v S' → gW Y X S' (pc + 3) L (v.toList ++ st)) : gU X H locs (F0 (xM X) pc ls st0) := by
  intro T hT XX
  obtain ⟨v, st₀, t, T', Ls, h0, X', hL, e1, e2, ⟨⟨v', S', hv, hp, hP⟩, hz, hk⟩, stp⟩ := hr T hT XX
  cases hv
  rw [h0] at hz hk
  obtain ⟨q1, q2, q3, q4⟩ := hH
  obtain ⟨t2, a1, b1⟩ := kk v S' hp T'.heap (locs ++ Ls) ls ⟨by rw [e1]; exact hP, by rw [e1]; exact Nat.le_trans q2 hz, fun q hq => by rw [e1, hk q hq]; exact q3 q hq, fun lc hlc => by
      rcases List.mem_append.mp hlc with h | h
      · exact q4 lc h
      · exact hL lc h⟩ hl T' rfl X'
  exact ⟨t2, stp t2 a1, b1⟩
/-- what a call of the method md wants of the tables, as an instance's of the class C -/
def gEV (md : gMd) (C : String) (np : Nat) : Prop := md.1.cls = C ∧ Cond.code md.1 md.2.1 md.2.2.1 md.2.2.2.1 ∈ lw_g ∧ Cond.instanceMethod md.1 ∈ lw_g ∧ Cond.selects C md.1 md.1 ∈ lw_g ∧ Cond.initialized C ∈ lw_g ∧ (md.1.cls ≠ "java/lang/invoke/MethodHandle" ∧ md.1.cls ≠ "java/lang/invoke/VarHandle" ∧ (parseMethodDescriptor md.1.desc).map (fun d => d.parameters.length) = some np) ∧ md.2.2.1 + 19 ≤ 40
def gES (md : gMd) (np : Nat) : Prop := Cond.code md.1 md.2.1 md.2.2.1 md.2.2.2.1 ∈ lw_g ∧ Cond.static md.1 ∈ lw_g ∧ Cond.initialized md.1.cls ∈ lw_g ∧ (md.1.cls ≠ "java/lang/invoke/MethodHandle" ∧ md.1.cls ≠ "java/lang/invoke/VarHandle" ∧ (parseMethodDescriptor md.1.desc).map (fun d => d.parameters.length) = some np) ∧ md.2.2.1 + 19 ≤ 40
theorem g_room {R : Room} {k kc nL : Nat} (h1 : k ≤ R.frames) (h2 : 40 * k ≤ R.locals) (h3 : kc + 1 ≤ k) (h4 : nL + 19 ≤ 40) : (gRoom kc).frames + 1 ≤ R.frames ∧ 8 + (nL + 11) + (gRoom kc).locals ≤ R.locals := by
  show kc + 1 ≤ R.frames ∧ 8 + (nL + 11) + 40 * kc ≤ R.locals
  omega
theorem g_callV (B : gB Y X own cc nL ret k) {md : gMd} {n i ci np : Nat} {As st0 : List Value} {Post : Option Value → SS → Prop} {C : String} {T : u_T} {N : Nat} {ty : Nat → FieldType} {fs : List Value} (d : decode cc pc = .ok (.invokevirtual i, 3)) (hq : pc + 3 = q) (hM : gM Y (xL X) md S (.ref (yA Y n) :: As) Post) (hE : gEV md C np) (hw : Cond.methodLink own i md.1 ∈ lw_g) (hkk : md.2.2.2.2 + 1 ≤ k) {g : Int → Int} (hg : S n = g) (he : cw Y n g = some (.inr (ci, fs))) (hc : gCls ci C T N ty) (hn : As.length = np) (hst : st0 = As.reverse ++ .ref (yA Y n) :: st) (hrest : (st.map fun v => v.category).sum ≤ 8) (kk : ∀ (v : Option Value) (S' : SS), Post v S' → gW Y X S' q L (v.toList ++ st)) : gW Y X S pc L st0 := by
  subst hq
  intro H locs ls hH hl
  have hP : va_P (yD Y) vwCl [(yA Y n, .inr (ci, fs))] H := fun j q0 hj => by
    cases j with
    | zero => cases hj; exact hH.1 n _ (by rw [hg]; exact he)
    | succ j => simp at hj
  obtain ⟨e1, e2, e3, e4, e5, e6, e7⟩ := hE
  obtain ⟨y, bytes, mL, rt, kc⟩ := md
  dsimp only at e1 e2 e3 e4 e5 e6 e7 hw hkk
  have hG : GoodIn lw_g (wsV own i C y (Cond.code y bytes mL rt :: lw_g)) := goodIn_app (fun w hw' => by
    simp only [List.mem_cons, List.not_mem_nil, or_false] at hw'
    rcases hw' with rfl | rfl | rfl | rfl
    · exact lw_gg _ hw
    · exact lw_gg _ e3
    · exact lw_gg _ e4
    · exact lw_gg _ e5) (lw_gc e2)
  refine g_fin hH hl (va_runV (As := As) (rest := st) ⟨B.1, B.2.1, B.2.2.1, B.2.2.2.2.1, B.2.2.2.2.2.1⟩ hM (cwV np B.2.2.2.2.2.1 hG rfl rfl rfl ⟨e1, e6⟩ (g_room B.2.2.2.2.2.2.2.2.1 B.2.2.2.2.2.2.2.2.2.1 hkk e7)) ⟨gPc_blind, va_recv B.2.2.2.2.2.2.1.2.1 hP (ci := ci) (q0 := 0) hc.1 rfl, gPc_pre B.2.2.2.2.2.2.1 hH⟩ rfl hn (hl.1.trans B.2.2.1) hst (lv_room hrest) d ⟨B.2.2.2.2.2.2.2.2.2.2.1, B.2.2.2.2.2.2.2.2.2.2.2⟩) kk
theorem g_callS (B : gB Y X own cc nL ret k) {md : gMd} {i np : Nat} {As st0 : List Value} {Post : Option Value → SS → Prop} (d : decode cc pc = .ok (.invokestatic i, 3)) (hq : pc + 3 = q) (hM : gM Y (xL X) md S As Post) (hE : gES md np) (hw : Cond.methodLink own i md.1 ∈ lw_g) (hkk : md.2.2.2.2 + 1 ≤ k) (hn : As.length = np) (hst : st0 = As.reverse ++ st) (hrest : (st.map fun v => v.category).sum ≤ 8) (kk : ∀ (v : Option Value) (S' : SS), Post v S' → gW Y X S' q L (v.toList ++ st)) : gW Y X S pc L st0 := by
  subst hq
  intro H locs ls hH hl
  obtain ⟨e2, e3, e5, e6, e7⟩ := hE
  obtain ⟨y, bytes, mL, rt, kc⟩ := md
  dsimp only at e2 e3 e5 e6 e7 hw hkk
  have hG : GoodIn lw_g (va_wsS own i y (Cond.code y bytes mL rt :: lw_g)) := goodIn_app (fun w hw' => by
    simp only [List.mem_cons, List.not_mem_nil, or_false] at hw'
    rcases hw' with rfl | rfl | rfl
    · exact lw_gg _ hw
    · exact lw_gg _ e3
    · exact lw_gg _ e5) (lw_gc e2)
  refine g_fin hH hl (va_runS (As := As) (rest := st) ⟨B.1, B.2.1, B.2.2.1, B.2.2.2.2.1, B.2.2.2.2.2.1⟩ hM (va_cwS np B.2.2.2.2.2.1 hG rfl rfl rfl e6 (g_room B.2.2.2.2.2.2.2.2.1 B.2.2.2.2.2.2.2.2.2.1 hkk e7)) ⟨gPc_blind, gPc_pre B.2.2.2.2.2.2.1 hH⟩ rfl hn (hl.1.trans B.2.2.1) hst (lv_room hrest) d ⟨B.2.2.2.2.2.2.2.2.2.2.1, B.2.2.2.2.2.2.2.2.2.2.2⟩) kk
theorem g_callSN (B : gB Y X own cc nL ret k) {md : gMd} {i np : Nat} {host : String} {As st0 : List Value} {Post : Option Value → SS → Prop} (d : decode cc pc = .ok (.invokestatic i, 3)) (hq : pc + 3 = q) (hM : gM Y (xL X) md S As Post) (hE : gES md np) (hw : Cond.methodLinkNest own i md.1 host ∈ lw_nest) (hkk : md.2.2.2.2 + 1 ≤ k) (hn : As.length = np) (hst : st0 = As.reverse ++ st) (hrest : (st.map fun v => v.category).sum ≤ 8) (kk : ∀ (v : Option Value) (S' : SS), Post v S' → gW Y X S' q L (v.toList ++ st)) : gW Y X S pc L st0 := by
  subst hq
  intro H locs ls hH hl
  obtain ⟨e2, e3, e5, e6, e7⟩ := hE
  obtain ⟨y, bytes, mL, rt, kc⟩ := md
  dsimp only at e2 e3 e5 e6 e7 hw hkk
  have hts := B.2.2.2.2.2.1
  refine g_fin hH hl (va_runSN (As := As) (rest := st) ⟨B.1, B.2.1, B.2.2.1, B.2.2.2.2.1, B.2.2.2.2.2.1⟩ hM ⟨va_cnB np hts (lw_gc e2) rfl rfl rfl (B.2.2.2.2.2.2.1.2.2.1 _ hw) (hts _ e5) e6 (g_room B.2.2.2.2.2.2.2.2.1 B.2.2.2.2.2.2.2.2.2.1 hkk e7), hts _ e3, trivial⟩ ⟨gPc_blind, gPc_pre B.2.2.2.2.2.2.1 hH⟩ rfl hn (hl.1.trans B.2.2.1) hst (lv_room hrest) d ⟨B.2.2.2.2.2.2.2.2.2.2.1, B.2.2.2.2.2.2.2.2.2.2.2⟩) kk
variable {Post : Option Value → SS → Prop}
theorem g_end {v : Option Value} {H : Heap} {locs : List Loc} (hH : gH Y (xS X) H locs S) (h : Post v S) : ∀ t : State, t.heap = H → (xS X).WarmedH t.vm → gQc Y Post (xArgs X) (xS X) (.returned v) t := fun t ht _ => ⟨⟨v, S, rfl, h, by rw [ht]; exact hH.1⟩, by rw [ht]; exact hH.2.1, fun q hq => by rw [ht]; exact hH.2.2.1 q hq⟩
theorem g_iret (B : gB Y X own cc nL (some .int) k) (E : gE Y X Post) (d : decode cc pc = .ok (.ireturn, 1)) {x : Int32} (h : Post (some (.int x)) S) : gW Y X S pc L [.int x] := by
  intro H locs ls hH hl
  unfold gU
  rw [show xQ X = _ from E]
  exact W.iret B.1 B.2.1 B.2.2.2.1 (g_end hH h) hH.2.2.2 d (hlocks := B.2.2.2.2.2.2.2.1)
theorem g_zret (B : gB Y X own cc nL ret k) (E : gE Y X Post) (d : decode cc pc = .ok (.ireturn, 1)) {ty : FieldType} (hr : ret = some ty) {x : Int32} (hn : narrow ty (.int x) = .int x) (h : Post (some (.int x)) S) : gW Y X S pc L [.int x] := by
  intro H locs ls hH hl
  unfold gU
  rw [show xQ X = _ from E]
  exact W.zret B.1 B.2.1 (B.2.2.2.1.trans hr) hn (g_end hH h) hH.2.2.2 d (hlocks := B.2.2.2.2.2.2.2.1)
theorem g_lret (B : gB Y X own cc nL (some .long) k) (E : gE Y X Post) (d : decode cc pc = .ok (.lreturn, 1)) {x : Int64} (h : Post (some (.long x)) S) : gW Y X S pc L [.long x] := by
  intro H locs ls hH hl
  unfold gU
  rw [show xQ X = _ from E]
  exact W.lret B.1 B.2.1 B.2.2.2.1 (g_end hH h) hH.2.2.2 d (hlocks := B.2.2.2.2.2.2.2.1)
theorem g_vret (B : gB Y X own cc nL none k) (E : gE Y X Post) (d : decode cc pc = .ok (.return_, 1)) (h : Post none S) : gW Y X S pc L [] := by
  intro H locs ls hH hl
  unfold gU
  rw [show xQ X = _ from E]
  exact W.vret B.1 B.2.1 B.2.2.2.1 (g_end hH h) hH.2.2.2 d (hlocks := B.2.2.2.2.2.2.2.1)
theorem g_aret (B : gB Y X own cc nL ret k) (E : gE Y X Post) (d : decode cc pc = .ok (.areturn, 1)) {C : String} (hr : ret = some (.object C)) {v : Value} (hv : v = .null ∨ ∃ a, v = .ref a) (h : Post (some v) S) : gW Y X S pc L [v] := by
  intro H locs ls hH hl
  unfold gU
  rw [show xQ X = _ from E]
  exact W.aret B.1 B.2.1 (B.2.2.2.1.trans hr) (Or.inl ⟨C, rfl⟩) hv (g_end hH h) hH.2.2.2 d (hlocks := B.2.2.2.2.2.2.2.1)
/-- Math.min, Math.abs -/
theorem g_min (B : gB Y X own cc nL ret k) {i : Nat} {a b : Int} (d : decode cc pc = .ok (.invokestatic i, 3)) (hq : pc + 3 = q) (h1 : Cond.methodLink own i Lib.Math.min.name ∈ lw_g) (h2 : Cond.static Lib.Math.min.name ∈ lw_g) (h3 : Cond.initialized "java/lang/Math" ∈ lw_g) (h4 : Cond.code Lib.Math.min.name Lib.Math.min.code 2 (some .int) ∈ lw_g) (hk : 1 ≤ k) (hrest : (st.map fun v => v.category).sum ≤ 8) (ha : rI a) (hb : rI b) (kk : gW Y X S q L (.int (iI (if b < a then b else a)) :: st)) : gW Y X S pc L (.int (iI b) :: .int (iI a) :: st) := by
  subst hq
  intro H locs ls hH hl
  have hts := B.2.2.2.2.2.1
  refine va_mmin B.1 B.2.1 hl.1.symm B.2.2.2.2.1 (hts _ h1) (hts _ h2) (hts _ h3) (hts _ h4) (Nat.le_trans hk B.2.2.2.2.2.2.2.2.1) (by have := B.2.2.2.2.2.2.2.2.2.1; omega) B.2.2.2.2.2.2.2.2.2.2.1 B.2.2.2.2.2.2.2.2.2.2.2 d ?_
  have e : (if iI b < iI a then iI b else iI a) = iI (if b < a then b else a) := by
    by_cases h : b < a
    · rw [if_pos h, if_pos ((iI_lt hb ha).mpr h)]
    · rw [if_neg h, if_neg (fun z => h ((iI_lt hb ha).mp z))]
  rw [e]
  exact kk H locs ls hH hl
theorem g_abs (B : gB Y X own cc nL ret k) {i : Nat} {a : Int} (d : decode cc pc = .ok (.invokestatic i, 3)) (hq : pc + 3 = q) (h1 : Cond.methodLink own i Lib.Math.abs.name ∈ lw_g) (h2 : Cond.static Lib.Math.abs.name ∈ lw_g) (h3 : Cond.initialized "java/lang/Math" ∈ lw_g) (h4 : Cond.code Lib.Math.abs.name Lib.Math.abs.code 1 (some .int) ∈ lw_g) (hk : 1 ≤ k) (hrest : (st.map fun v => v.category).sum ≤ 8) (ha : rI a) (kk : gW Y X S q L (.int (iI (if 0 ≤ a then a else -a)) :: st)) : gW Y X S pc L (.int (iI a) :: st) := by
  subst hq
  intro H locs ls hH hl
  have hts := B.2.2.2.2.2.1
  refine va_mabs B.1 B.2.1 hl.1.symm B.2.2.2.2.1 (hts _ h1) (hts _ h2) (hts _ h3) (hts _ h4) (Nat.le_trans hk B.2.2.2.2.2.2.2.2.1) (by have := B.2.2.2.2.2.2.2.2.2.1; omega) B.2.2.2.2.2.2.2.2.2.2.1 B.2.2.2.2.2.2.2.2.2.2.2 d ?_
  have e : (if 0 ≤ iI a then iI a else 0 - iI a) = iI (if 0 ≤ a then a else -a) := by
    have e0 : (0 : Int32) = iI 0 := rfl
    rw [e0]
    by_cases h : 0 ≤ a
    · rw [if_pos h, if_pos ((iI_le rI_0 ha).mpr h)]
    · rw [if_neg h, if_neg (fun z => h ((iI_le rI_0 ha).mp z)), iI_sub, Int.zero_sub]
  rw [e]
  exact kk H locs ls hH hl
end GC
end
