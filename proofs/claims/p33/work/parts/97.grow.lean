/-! A GROWING WORLD: entities by their addresses; each new one lies at the heap's end -/
abbrev nE : Type := Nat → Option va_E
def nE0 : nE := fun _ => none
def ue (E : nE) (a : Nat) (e : va_E) : nE := fun q => if q = a then some e else E q
theorem ue_eq (E : nE) (a : Nat) (e : va_E) : ue E a e a = some e := if_pos rfl
theorem ue_ne (E : nE) {a q : Nat} (e : va_E) (h : q ≠ a) : ue E a e q = E q := if_neg h
def nP (Y : gY) (E : nE) (H : Heap) : Prop := ∀ (a : Nat) (e : va_E), E a = some e → va_at (yD Y) vwCl (a, e) H
def nH (Y : gY) (s : State) (E : nE) (z : Nat) (H : Heap) (locs : List Loc) : Prop := nP Y E H ∧ H.size = z ∧ s.heap.size ≤ H.size ∧ (∀ q : Nat, q < yB Y → H[q]? = s.heap[q]?) ∧ ∀ lc ∈ locs, yB Y ≤ lc.base
def nW (Y : gY) (X : gX) (E : nE) (z : Nat) (pc : Nat) (L : List (Nat × Value)) (st : List Value) : Prop :=
  ∀ (H : Heap) (locs : List Loc) (ls : Array Slot), nH Y (xS X) E z H locs → lv_has ls (xC X).maxLocals L → gU X H locs (F0 (xM X) pc ls st)
def nN (U : State) : Prop := (∀ w ∈ lw_nest, va_Nw w U) ∧ va_AO "NecklaceSisters$Necklace" U
theorem nN.warm {s U : State} (hW : s.WarmedH U.vm) (h : nN s) : nN U := ⟨fun w hw => by
  have h5 := h.1 w hw
  have h6 := (List.mem_filter.mp hw).2
  cases w <;> first | (cases h6; done) | exact va_Nw.warmM hW h5, va_AO.moved hW.alike h.2⟩
def nB (Y : gY) (X : gX) (own : String) (cc : ByteArray) (nL : Nat) (ret : Option FieldType) (k : Nat) : Prop :=
  (xP X).tables.exec = Jvm.exec ∧ (xC X).code = cc ∧ (xC X).maxLocals = nL ∧ (xMeth X).sig.returnType = ret ∧ (xS X).vm.findClass own = some (xM X).cls ∧ (∀ w ∈ lw_g, w.before (xArgs X) (xS X) = true) ∧ va_K (yD Y) vwCl (gTys Y) (xS X) ∧ (xMeth X).locks = false ∧ k ≤ (xR X).frames ∧ 40 * k ≤ (xR X).locals ∧ xCells X ≤ (xR X).cells ∧ xSlots X ≤ (xR X).slots ∧ yB Y ≤ (xS X).heap.size ∧ nN (xS X)
/-- a constructor: from the world E of z cells to the world E2 of z2 cells -/
def nRoom (k mc ms : Nat) : Room := { frames := k, cells := mc, slots := ms, locals := 40 * k }
def nPc (Y : gY) (E : nE) (z : Nat) (av : List Value) : Array Value → State → Prop := fun v U => v = av.toArray ∧ va_K (yD Y) vwCl (gTys Y) U ∧ nP Y E U.heap ∧ U.heap.size = z ∧ yB Y ≤ U.heap.size ∧ nN U
def nQc (Y : gY) (E2 : nE) (z2 : Nat) : Array Value → State → Outcome → State → Prop := fun _ st o t => (o = .returned none ∧ nP Y E2 t.heap ∧ t.heap.size = z2) ∧ st.heap.size ≤ t.heap.size ∧ ∀ q : Nat, q < yB Y → t.heap[q]? = st.heap[q]?
def nM (Y : gY) (l : Launch) (y : MethodName) (cc : ByteArray) (nL k : Nat) (E : nE) (z : Nat) (av : List Value) (E2 : nE) (z2 mc ms : Nat) : Prop :=
  Met l y (.code y cc nL none :: lw_g) (nRoom k mc ms) (nPc Y E z av) (nQc Y E2 z2) mc ms (gF Y)
def nZ (Y : gY) (X : gX) (E2 : nE) (z2 mc ms : Nat) : Prop := xQ X = MQ (xBelow X) (nQc Y E2 z2) (xArgs X) (xS X) mc ms (gF Y)
theorem nM_of {Y : gY} {l : Launch} {y : MethodName} {cc : ByteArray} {nL k : Nat} {E : nE} {z : Nat} {av : List Value} {E2 : nE} {z2 mc ms : Nat} (hy : plainName y.cls = true) (hlen : (lg_sl av).length ≤ nL)
    (h : ∀ X : gX, xL X = l → nB Y X y.cls cc nL none k → (xMeth X).name = y.name → xCells X = 0 ∧ xSlots X = 0 ∧ (xR X).cells = mc ∧ (xR X).slots = ms → nZ Y X E2 z2 mc ms → nW Y X E z 0 (lv_args 0 av) []) : nM Y l y cc nL k E z av E2 z2 mc ms := by
  refine Met.ofW (cc := cc) (maxL := nL) (ret := none) hy rfl ?_
  intro p e s m args below meth c s₁ B hml hv
  obtain ⟨rfl, hK, hP, hz, hyb, hnn⟩ := hv
  have hts := atoms_spec (ws := .code y cc nL none :: lw_g) B.pre
  have h1 := h (p, l, e, (headSpec (.code y cc nL none :: lw_g) (nRoom k mc ms)).room, s, m, av.toArray, below, meth, c, 0, 0, MQ below (nQc Y E2 z2) av.toArray s mc ms (gF Y)) rfl
    ⟨B.exec, B.bytes, hml, B.returns, findClass_of_methodNamed B.named, fun w hw => hts w (List.mem_cons_of_mem _ hw), hK, B.notSynchronized, Nat.le_refl _, Nat.le_refl _, Nat.zero_le _, Nat.zero_le _, hyb, hnn⟩ (name_of_methodNamed B.named B.method).1 ⟨rfl, rfl, rfl, rfl⟩ rfl
  have hl := lv_entry av (n := nL) hlen
  have h2 := h1 s.heap [] _ ⟨hP, hz, Nat.le_refl _, fun _ _ => rfl, fun _ h => by cases h⟩ (by show lv_has _ c.maxLocals _; rw [hml]; exact hl)
  show W p l e _ s m _ below meth c s.heap [] 0 0 _ (entryFrame m av.toArray nL)
  rw [lg_entry_eq]
  exact h2
section GNR
variable {Y : gY} {X : gX} {E : nE} {z : Nat} {own : String} {cc : ByteArray} {nL : Nat} {ret : Option FieldType} {k : Nat} {pc q : Nat} {L L' : List (Nat × Value)} {st : List Value}
theorem nB_at (B : nB Y X own cc nL ret k) {c n : Nat} (h1 : c ≤ (xR X).cells) (h2 : n ≤ (xR X).slots) : nB Y (xAt X c n) own cc nL ret k := by
  obtain ⟨a1, a2, a3, a4, a5, a6, a7, a8, a9, b1, -, -, b4⟩ := B
  exact ⟨a1, a2, a3, a4, a5, a6, a7, a8, a9, b1, h1, h2, b4⟩
theorem n_sub (ks : List Nat) (hl : lv_pick L ks = L') (kk : nW Y X E z pc L' st) : nW Y X E z pc L st := fun H locs ls hH h => kk H locs ls hH (lv_sub h ks hl)
theorem n_iconst (B : nB Y X own cc nL ret k) {n : Int} (d : decode cc pc = .ok (.iconst n, 1)) (hq : pc + 1 = q)  (kk : nW Y X E z q L (.int (iI n) :: st)) : nW Y X E z pc L st := by
  subst hq
  intro H locs ls hH hl
  exact lv_iconst B.1 B.2.1 d rfl (kk H locs ls hH hl)
theorem n_bipush (B : nB Y X own cc nL ret k) {n : Int} (d : decode cc pc = .ok (.bipush n, 2)) (hq : pc + 2 = q) (hv : (Int8.ofInt n).toInt32 = iI n) (kk : nW Y X E z q L (.int (iI n) :: st)) : nW Y X E z pc L st := by
  subst hq
  intro H locs ls hH hl
  exact lv_bipush B.1 B.2.1 d hv (kk H locs ls hH hl)
theorem n_sipush (B : nB Y X own cc nL ret k) {n : Int} (d : decode cc pc = .ok (.sipush n, 3)) (hq : pc + 3 = q) (hv : (Int16.ofInt n).toInt32 = iI n) (kk : nW Y X E z q L (.int (iI n) :: st)) : nW Y X E z pc L st := by
  subst hq
  intro H locs ls hH hl
  exact lv_sipush B.1 B.2.1 d hv (kk H locs ls hH hl)
theorem n_iload_n (B : nB Y X own cc nL ret k) {j : Fin 4} {x : Int32} (d : decode cc pc = .ok (.iload_n j, 1)) (hq : pc + 1 = q) (n : Nat) (hk : L[n]? = some ((j : Nat), .int x)) (kk : nW Y X E z q L (.int x :: st)) : nW Y X E z pc L st := by
  subst hq
  intro H locs ls hH hl
  exact lv_iload_n B.1 B.2.1 d rfl (lv_at hl n hk) (kk H locs ls hH hl)
theorem n_aload_n (B : nB Y X own cc nL ret k) {j : Fin 4} {x : Nat} (d : decode cc pc = .ok (.aload_n j, 1)) (hq : pc + 1 = q) (n : Nat) (hk : L[n]? = some ((j : Nat), .ref x)) (kk : nW Y X E z q L (.ref x :: st)) : nW Y X E z pc L st := by
  subst hq
  intro H locs ls hH hl
  exact lv_aload_n B.1 B.2.1 d rfl (lv_at hl n hk) (kk H locs ls hH hl)
theorem n_istore_n (B : nB Y X own cc nL ret k) {j : Fin 4} {x : Int32} (d : decode cc pc = .ok (.istore_n j, 1)) (hq : pc + 1 = q) (hn : (j : Nat) < nL) (hL : ((j : Nat), Value.int x) :: L.filter (fun q => !(q.1 == (j : Nat)) && !(q.1 + 1 == (j : Nat) && q.2.category == 2)) = L') (kk : nW Y X E z q L' st) : nW Y X E z pc L (Value.int x :: st) := by
  subst hq
  intro H locs ls hH hl
  rw [B.2.2.1] at hl
  exact lv_istore_n B.1 B.2.1 d rfl hl hn hL (fun ls' hl' => kk H locs ls' hH (by rw [B.2.2.1]; exact hl'))
theorem n_istore (B : nB Y X own cc nL ret k) {j : Nat} {x : Int32} (d : decode cc pc = .ok (.istore j, 2)) (hq : pc + 2 = q) (hn : j < nL) (hL : (j, Value.int x) :: L.filter (fun q => !(q.1 == j) && !(q.1 + 1 == j && q.2.category == 2)) = L') (kk : nW Y X E z q L' st) : nW Y X E z pc L (Value.int x :: st) := by
  subst hq
  intro H locs ls hH hl
  rw [B.2.2.1] at hl
  exact lv_istore B.1 B.2.1 d hl hn hL (fun ls' hl' => kk H locs ls' hH (by rw [B.2.2.1]; exact hl'))
theorem n_astore_n (B : nB Y X own cc nL ret k) {j : Fin 4} {x : Nat} (d : decode cc pc = .ok (.astore_n j, 1)) (hq : pc + 1 = q) (hn : (j : Nat) < nL) (hL : ((j : Nat), Value.ref x) :: L.filter (fun q => !(q.1 == (j : Nat)) && !(q.1 + 1 == (j : Nat) && q.2.category == 2)) = L') (kk : nW Y X E z q L' st) : nW Y X E z pc L (Value.ref x :: st) := by
  subst hq
  intro H locs ls hH hl
  rw [B.2.2.1] at hl
  exact lv_astore_n B.1 B.2.1 d rfl hl hn hL (fun ls' hl' => kk H locs ls' hH (by rw [B.2.2.1]; exact hl'))
theorem n_iinc (B : nB Y X own cc nL ret k) {i n : Nat} {zi a : Int} (d : decode cc pc = .ok (.iinc i zi, 3)) (hq : pc + 3 = q) (hk : L[n]? = some (i, .int (iI a))) (hn : i < nL) (hL : (i, Value.int (iI (a + zi))) :: L.filter (fun q => !(q.1 == i) && !(q.1 + 1 == i && q.2.category == 2)) = L') (kk : nW Y X E z q L' st) : nW Y X E z pc L st := by
  subst hq
  intro H locs ls hH hl
  rw [B.2.2.1] at hl
  exact lv_iinc B.1 B.2.1 d hl hk (iI_add a zi) hn hL (fun ls' hl' => kk H locs ls' hH (by rw [B.2.2.1]; exact hl'))
theorem n_iadd (B : nB Y X own cc nL ret k) {a b : Int} (d : decode cc pc = .ok (.iadd, 1)) (hq : pc + 1 = q)  (kk : nW Y X E z q L (.int (iI (a + b)) :: st)) : nW Y X E z pc L (.int (iI b) :: .int (iI a) :: st) := by
  subst hq
  intro H locs ls hH hl
  exact lv_iadd B.1 B.2.1 d (by rw [iI_add]; exact kk H locs ls hH hl)
theorem n_dup (B : nB Y X own cc nL ret k) {va : Value} (d : decode cc pc = .ok (.dup, 1)) (hq : pc + 1 = q) (hc : va.category = 1) (kk : nW Y X E z q L (va :: va :: st)) : nW Y X E z pc L (va :: st) := by
  subst hq
  intro H locs ls hH hl
  exact lv_dup B.1 B.2.1 d hc (kk H locs ls hH hl)
theorem n_goto (B : nB Y X own cc nL ret k) {off : Int} (d : decode cc pc = .ok (.goto off, 3)) (hq : (pc : Int) + off = (q : Int)) (kk : nW Y X E z q L st) : nW Y X E z pc L st := by
  intro H locs ls hH hl
  exact lv_goto B.1 B.2.1 d hq (kk H locs ls hH hl)
theorem n_icmp_ge (B : nB Y X own cc nL ret k) {a b off : Int} {t : Nat} (d : decode cc pc = .ok (.if_icmp .ge off, 3)) (ht : (pc : Int) + off = (t : Int)) (hq : pc + 3 = q) (ha : rI a) (hb : rI b) (kt : b ≤ a → nW Y X E z t L st) (kf : ¬ (b ≤ a) → nW Y X E z q L st) : nW Y X E z pc L (.int (iI b) :: .int (iI a) :: st) := by
  subst hq
  intro H locs ls hH hl
  exact lv_icmp_ge B.1 B.2.1 d ht (fun h => kt ((iI_le hb ha).mp h) H locs ls hH hl) (fun h => kf (fun zz => h ((iI_le hb ha).mpr zz)) H locs ls hH hl)
theorem n_new (B : nB Y X own cc nL ret k) {i ci : Nat} {C : String} {T : u_T} {N : Nat} {ty : Nat → FieldType} {fs : List Value} (d : decode cc pc = .ok (.new i, 3)) (hq : pc + 3 = q) (hc : gCls ci C T N ty) (w1 : Cond.classLink own i C ∈ lw_g) (w2 : Cond.instantiable C N ∈ lw_g) (w3 : Cond.initialized C ∈ lw_g) (hfs : ∀ j, j < N → defaultValue (ty j) = vp_V fs j) (h1 : xCells X + 1 ≤ (xR X).cells) (h2 : xSlots X + N ≤ (xR X).slots)
    (kk : nB Y (xAt X (xCells X + 1) (xSlots X + N)) own cc nL ret k → nW Y (xAt X (xCells X + 1) (xSlots X + N)) (ue E z (.inr (ci, fs))) (z + 1) q L (.ref z :: st)) : nW Y X E z pc L st := by
  subst hq
  intro H locs ls hH hl
  obtain ⟨a1, rfl, a3, a4, a5⟩ := hH
  have hts := B.2.2.2.2.2.1
  have hK := B.2.2.2.2.2.2.1
  have hKn := hK.1 ci _ hc.1
  have hyb := B.2.2.2.2.2.2.2.2.2.2.2.2.1
  refine W.newcK B.1 B.2.1 B.2.2.2.2.1 (hts _ w1) (hts _ w2) (hts _ w3) rfl d h1 h2 hKn.2.1 rfl fun H1 kC hkC e1 z1 o1 => ?_
  refine kk (nB_at B h1 h2) H1 locs ls ⟨fun a e he => ?_, z1, Nat.le_trans a3 (by rw [z1]; exact Nat.le_succ _), fun q hq => (o1 q (Nat.lt_of_lt_of_le hq (Nat.le_trans hyb a3))).trans (a4 q hq), a5⟩ hl
  by_cases h : a = H.size
  · subst h
    rw [ue_eq] at he
    cases he
    exact ⟨_, hc.1, (u_born ty hts hc.2.1 hKn hkC e1 hc.2.2.1).to hfs⟩
  · rw [ue_ne _ _ h] at he
    exact (a1 a e he).kept (o1 a (a1 a e he).lt)
theorem n_newa (B : nB Y X own cc nL ret k) {aty : ArrayType} {ty : FieldType} {t0 : Nat} {cA : ClassId} {N : Nat} {a0 : vp_A} (d : decode cc pc = .ok (.newarray aty, 2)) (hq : pc + 2 = q) (hty : newarray.typeOf aty = ty) (ht : (gTys Y)[t0]? = some (cA, ty)) (hnm : va_RA (xS X) cA ty → (xS X).vm.findClass ("[" ++ ty.toString) = some cA) (harr : Cond.arrayClass ty ∈ lw_g) (ha : vp_cell cA a0 = arrV cA N (fun _ => defaultValue ty)) (hN : N < 1000) (hbytes : N * componentBytes ty ≤ 536870912) (h1 : xCells X + 1 ≤ (xR X).cells) (h2 : xSlots X + N ≤ (xR X).slots)
    (kk : nB Y (xAt X (xCells X + 1) (xSlots X + N)) own cc nL ret k → nW Y (xAt X (xCells X + 1) (xSlots X + N)) (ue E z (.inl (cA, a0))) (z + 1) q L (.ref z :: st)) : nW Y X E z pc L (.int (iI (N : Int)) :: st) := by
  subst hq
  subst hty
  intro H locs ls hH hl
  obtain ⟨a1, rfl, a3, a4, a5⟩ := hH
  have hts := B.2.2.2.2.2.1
  have hK := B.2.2.2.2.2.2.1
  have hyb := B.2.2.2.2.2.2.2.2.2.2.2.2.1
  have hcl : (iI (N : Int)).toNatClampNeg = N := by rw [iI_clamp ⟨by omega, by omega⟩]; exact Int.toNat_natCast N
  have hng : ¬ iI (N : Int) < 0 := fun h => (iI_in (a := (N : Int)) (n := N + 1) (by omega) (by omega) (by omega)) (Or.inl h)
  refine va_newaK B.1 B.2.1 (hts _ harr) rfl d rfl hng hcl hbytes h1 h2 rfl fun H1 cX e1 z1 o1 hAr hNm => ?_
  have hcx : cX = cA := Option.some.inj (hNm.symm.trans (hnm (hK.2 t0 _ ht).2))
  subst hcx
  refine kk (nB_at B h1 h2) H1 locs ls ⟨fun a e he => ?_, z1, Nat.le_trans a3 (by rw [z1]; exact Nat.le_succ _), fun q hq => (o1 q (Nat.lt_of_lt_of_le hq (Nat.le_trans hyb a3))).trans (a4 q hq), a5⟩ hl
  by_cases h : a = H.size
  · subst h
    rw [ue_eq] at he
    cases he
    show H1[H.size]? = some (vp_cell _ _)
    rw [ha]
    exact e1
  · rw [ue_ne _ _ h] at he
    exact (a1 a e he).kept (o1 a (a1 a e he).lt)
theorem n_anewa (B : nB Y X own cc nL ret k) {i : Nat} {N : Nat} (d : decode cc pc = .ok (.anewarray i, 3)) (hq : pc + 3 = q) (w1 : Cond.classLink own i "NecklaceSisters$Necklace" ∈ lw_g) (hN : N < 1000) (h1 : xCells X + 1 ≤ (xR X).cells) (h2 : xSlots X + N ≤ (xR X).slots)
    (kk : nB Y (xAt X (xCells X + 1) (xSlots X + N)) own cc nL ret k → nW Y (xAt X (xCells X + 1) (xSlots X + N)) (ue E z (.inl (yC Y 4, N, .inr (.inr (.inr (.inr fun _ => none)))))) (z + 1) q L (.ref z :: st)) : nW Y X E z pc L (.int (iI (N : Int)) :: st) := by
  subst hq
  intro H locs ls hH hl
  obtain ⟨a1, rfl, a3, a4, a5⟩ := hH
  have hts := B.2.2.2.2.2.1
  have hK := B.2.2.2.2.2.2.1
  have hyb := B.2.2.2.2.2.2.2.2.2.2.2.2.1
  have hcl : (iI (N : Int)).toNatClampNeg = N := by rw [iI_clamp ⟨by omega, by omega⟩]; exact Int.toNat_natCast N
  have hng : ¬ iI (N : Int) < 0 := fun h => (iI_in (a := (N : Int)) (n := N + 1) (by omega) (by omega) (by omega)) (Or.inl h)
  refine W.anew B.1 B.2.1 B.2.2.2.2.1 (hts _ w1) (va_AO.use B.2.2.2.2.2.2.2.2.2.2.2.2.2.2) rfl d rfl hng (by rw [hcl]; omega) h1 (by rw [hcl]; exact h2) fun cX kA comp g1 g2 g3 g4 => ?_
  obtain ⟨kB, cB, r1, r2, r3, r4⟩ : ∃ (kA : Class) (comp : ClassId), (xS X).vm.classes[yC Y 4]? = some kA ∧ kA.kind = .array comp (.object "NecklaceSisters$Necklace") ∧ (xS X).vm.findClass "NecklaceSisters$Necklace" = some comp ∧ (xS X).vm.findClass ("[" ++ (FieldType.object "NecklaceSisters$Necklace").toString) = some (yC Y 4) := (hK.2 4 (yC Y 4, .object "NecklaceSisters$Necklace") rfl).2
  have hcx : cX = yC Y 4 := Option.some.inj (g1.symm.trans r4)
  subst hcx
  rw [hcl]
  refine kk (nB_at B h1 h2) _ locs ls ⟨fun a e he => ?_, by simp, Nat.le_trans a3 (by simp), fun q hq => by rw [Array.getElem?_push, if_neg (Nat.ne_of_lt (Nat.lt_of_lt_of_le hq (Nat.le_trans hyb a3)))]; exact a4 q hq, a5⟩ hl
  by_cases h : a = H.size
  · subst h
    rw [ue_eq] at he
    cases he
    show _ = some (vp_cell _ _)
    rw [vp_cell_q, Array.getElem?_push, if_pos rfl, arrV_new]
    rfl
  · rw [ue_ne _ _ h] at he
    have hlt := (a1 a e he).lt
    exact (a1 a e he).kept (by rw [Array.getElem?_push, if_neg h])
theorem n_putF (B : nB Y X own cc nL ret k) {a i ci : Nat} {C : String} {T : u_T} {N : Nat} {ty : Nat → FieldType} {fs : List Value} {v : Value} (d : decode cc pc = .ok (.putfield i, 3)) (hq : pc + 3 = q) (hya : yB Y ≤ a) (he : E a = some (.inr (ci, fs))) (hc : gCls ci C T N ty) (f : Nat) (hf : f < N) (hw : Cond.fieldLink own i (T f).1 (T f).2.1 (T f).2.2.1 ∈ lw_g) (hfin : (T f).2.2.2 = true) (hin2 : (xMeth X).name = "<init>") (hdecl : (T f).1 = own) (hn : narrow (ty f) v = v) (hfit : fits (ty f) v = true) (hlen : f < fs.length)
    (kk : nW Y X (ue E a (.inr (ci, fs.set f v))) z q L st) : nW Y X E z pc L (v :: .ref a :: st) := by
  subst hq
  intro H locs ls hH hl
  obtain ⟨a1, a2, a3, a4, a5⟩ := hH
  have hts := B.2.2.2.2.2.1
  have hK := B.2.2.2.2.2.2.1
  have hap := va_apart (own := own) hts hc.2.1 ty hc.2.2.1 hc.2.2.2 hK hc.1
  obtain ⟨r, h1, cell, q1, q2, q3, q4⟩ := a1 a _ he
  have hr : r = (C, T, N) := Option.some.inj (h1.symm.trans hc.1)
  subst hr
  obtain ⟨hS, hfc, kC, hkC, hkind⟩ := hK.1 ci _ hc.1
  obtain ⟨cf, kf, fi, fl, hi, hsl⟩ := hS f hf
  have hlay := hts _ (hc.2.1 _ (u_in_lay hf))
  unfold u_lay at hlay
  rw [if_pos hfin] at hlay
  have hst := (u_facts hfc hkC (u_lays hts hc.2.1 hf) hi).1
  have hcf : (xM X).cls = cf := by
    obtain ⟨_, _, c', _, _, _, -, -, hf', -, -, -, hown2, -⟩ := Cond.laysFinal_spec hlay
    have e1 : c' = cf := by have := hi.symm.trans hf'; simp at this; exact this.1.symm
    rw [hdecl] at hown2
    rw [← e1]; exact Option.some.inj (B.2.2.2.2.1.symm.trans hown2)
  have h6 := u_fits hfc hkC hkind (Or.inr hlay) hi (hc.2.2.1 f hf) hn hfit
  refine W.putFinK B.1 B.2.1 B.2.2.2.2.1 (hts _ hw) hi hst hcf hin2 (by rw [q2]; exact h6) q1 q3 (by rw [hsl]; exact k2_hasslot (q4 f hf)) rfl rfl d fun H' e1 e2 e3 => ?_
  rw [hsl] at e1 ⊢
  refine kk H' _ ls ⟨fun b e hb => ?_, by rw [e2]; exact a2, by rw [e2]; exact a3, fun q hq => by rw [e3 q (Nat.ne_of_lt (Nat.lt_of_lt_of_le hq hya))]; exact a4 q hq, fun lc hlc => ?_⟩ hl
  · by_cases h : b = a
    · subst h
      rw [ue_eq] at hb
      cases hb
      exact ⟨_, hc.1, t_OB.to (V := updV (vp_V fs) f v) ⟨_, e1, q2, q3, t_set q4 hap hf v⟩ (fun j _ => vp_updV_set hlen v j)⟩
    · rw [ue_ne _ _ h] at hb
      exact (a1 b e hb).kept (e3 b h)
  · rcases List.mem_append.mp hlc with h | h
    · exact a5 lc h
    · rw [List.mem_singleton.mp h]
      exact hya
theorem n_get (B : nB Y X own cc nL ret k) {a i ci : Nat} {C : String} {T : u_T} {N : Nat} {ty : Nat → FieldType} {fs : List Value} {v : Value} (d : decode cc pc = .ok (.getfield i, 3)) (hq : pc + 3 = q) (he : E a = some (.inr (ci, fs))) (hc : gCls ci C T N ty) (f : Nat) (hf : f < N) (hw : Cond.fieldLink own i (T f).1 (T f).2.1 (T f).2.2.1 ∈ lw_g) (hv : fs[f]? = some v) (kk : nW Y X E z q L (v :: st)) : nW Y X E z pc L (.ref a :: st) := by
  subst hq
  intro H locs ls hH hl
  have hP : va_P (yD Y) vwCl [(a, .inr (ci, fs))] H := fun j q0 hj => by
    cases j with
    | zero => cases hj; exact hH.1 a _ he
    | succ j => simp at hj
  exact va_get B.1 B.2.1 B.2.2.2.2.2.1 hc.2.1 B.2.2.2.2.1 B.2.2.2.2.2.2.1 hP 0 rfl hc.1 f hf (B.2.2.2.2.2.1 _ hw) (fun _ h9 => h9) hv d (kk H locs ls hH hl)
theorem n_alen (B : nB Y X own cc nL ret k) {a : Nat} {cA : ClassId} {x : vp_A} (d : decode cc pc = .ok (.arraylength, 1)) (hq : pc + 1 = q) (he : E a = some (.inl (cA, x))) (t0 : Nat) {ty : FieldType} (ht : (gTys Y)[t0]? = some (cA, ty)) {zl : Int} (hz : Int32.ofNat x.1 = iI zl) (kk : nW Y X E z q L (.int (iI zl) :: st)) : nW Y X E z pc L (.ref a :: st) := by
  subst hq
  intro H locs ls hH hl
  have hP : va_P (yD Y) vwCl [(a, .inl (cA, x))] H := fun j q0 hj => by
    cases j with
    | zero => cases hj; exact hH.1 a _ he
    | succ j => simp at hj
  exact va_alen B.1 B.2.1 B.2.2.2.2.2.2.1 hP 0 t0 rfl ht hz d (kk H locs ls hH hl)
theorem n_put {s : State} {H H1 : Heap} {locs : List Loc} {a j : Nat} {e : va_E} (hya : yB Y ≤ a) (hH : nH Y s E z H locs) (zz : H1.size = H.size) (oq : ∀ q : Nat, q ≠ a → H1[q]? = H[q]?) (hat : va_at (yD Y) vwCl (a, e) H1) : nH Y s (ue E a e) z H1 (locs ++ [⟨a, j⟩]) := by
  obtain ⟨a1, a2, a3, a4, a5⟩ := hH
  refine ⟨fun b e' hb => ?_, by rw [zz]; exact a2, by rw [zz]; exact a3, fun q hq => by rw [oq q (Nat.ne_of_lt (Nat.lt_of_lt_of_le hq hya))]; exact a4 q hq, fun lc hlc => ?_⟩
  · by_cases h : b = a
    · subst h
      rw [ue_eq] at hb
      cases hb
      exact hat
    · rw [ue_ne _ _ h] at hb
      exact (a1 b e' hb).kept (oq b h)
  · rcases List.mem_append.mp hlc with h | h
    · exact a5 lc h
    · rw [List.mem_singleton.mp h]
      exact hya
theorem n_iast (B : nB Y X own cc nL ret k) {n N : Nat} {a x : Int} {g : Int → Int} (d : decode cc pc = .ok (.iastore, 1)) (hq : pc + 1 = q) (hya : yB Y ≤ n) (he : E n = some (cI Y N g)) (hN : N < 2147483648) (h0 : 0 ≤ a) (h1 : a < N) (kk : nW Y X (ue E n (cI Y N (uq g a x))) z q L st) : nW Y X E z pc L (.int (iI x) :: .int (iI a) :: .ref n :: st) := by
  subst hq
  intro H locs ls hH hl
  obtain ⟨hin, hc, hn⟩ := g_in h0 h1 hN
  have hK := B.2.2.2.2.2.2.1
  refine W.iast B.1 B.2.1 (hH.1 n _ he) ((hK.2 0 (yC Y 0, .int) rfl).1 N (fun j => .int (iI (g j)))) (fun q => by cases q) (by show ¬ (iI a < 0 ∨ (arrV _ _ _).slots.size ≤ _); rw [arrV_size]; exact hin) rfl rfl d fun H1 e zz oq => ?_
  refine kk H1 _ ls (n_put hya hH zz oq ?_) hl
  show H1[n]? = some (vp_cell _ _)
  rw [e]
  show some ((vp_cell (yC Y 0) (N, .inl fun j => iI (g j))).setSlot _ _) = some (vp_cell (yC Y 0) (N, .inl fun j => iI (uq g a x j)))
  rw [uq_fun iI g h0, vp_cell_i, vp_cell_i, hc, arrV_store]
  congr 2
  funext j
  by_cases h : j = a.toNat <;> simp [updV, h]
theorem n_aast (B : nB Y X own cc nL ret k) {n N v : Nat} {a : Int} {f : Nat → Option Nat} {vs : List Value} (d : decode cc pc = .ok (.aastore, 1)) (hq : pc + 1 = q) (hya : yB Y ≤ n) (he : E n = some (.inl (yC Y 4, N, .inr (.inr (.inr (.inr f)))))) (hv : E v = some (.inr (2, vs))) (hN : N < 2147483648) (h0 : 0 ≤ a) (h1 : a < N)
    (kk : nW Y X (ue E n (.inl (yC Y 4, N, .inr (.inr (.inr (.inr (va_up f a.toNat (some v)))))))) z q L st) : nW Y X E z pc L (.ref v :: .int (iI a) :: .ref n :: st) := by
  subst hq
  intro H locs ls hH hl
  obtain ⟨hin, hc, hn⟩ := g_in h0 h1 hN
  have hK := B.2.2.2.2.2.2.1
  have hlt : (iI a).toNatClampNeg < N := Nat.not_le.mp fun q => hin (Or.inr q)
  have h00 : ¬ iI a < 0 := fun q => hin (Or.inl q)
  obtain ⟨r', hr', cellV, g1, g2, g3, -⟩ := hH.1 v _ hv
  have hcls := (hK.1 2 (RX2, TX2, 9) rfl).2
  obtain ⟨kA, comp, k1, k2, k3, -⟩ : ∃ (kA : Class) (comp : ClassId), (xS X).vm.classes[yC Y 4]? = some kA ∧ kA.kind = .array comp (.object "NecklaceSisters$Necklace") ∧ (xS X).vm.findClass "NecklaceSisters$Necklace" = some comp ∧ (xS X).vm.findClass ("[" ++ (FieldType.object "NecklaceSisters$Necklace").toString) = some (yC Y 4) := (hK.2 4 (yC Y 4, .object "NecklaceSisters$Necklace") rfl).2
  have hcomp : comp = (yD Y).1 2 := Option.some.inj (k3.symm.trans hcls.1)
  subst hcomp
  obtain ⟨kC, hkC, -⟩ := hcls.2
  refine W.aast B.1 B.2.1 (hH.1 n _ he) (fun q h => by cases h) (fun h => by cases h) k1 k2 rfl hkC ⟨h00, by show _ < (arrV _ _ _).slots.size; rw [arrV_size]; exact hlt⟩ g1 (fun q h => by rw [g3] at h; cases h) (by rw [g2]; exact hkC) (by rw [g2]; exact va_assign hcls) rfl rfl d fun H1 e zz oq => ?_
  refine kk H1 _ ls (n_put hya hH zz oq ?_) hl
  show H1[n]? = some (vp_cell _ _)
  rw [e]
  rw [vp_cell_q, vp_cell_q, arrV_store, hc]
  congr 2
  funext q
  by_cases hq : q = a.toNat
  · subst hq
    simp [updV, va_up, va_rf]
  · simp [updV, va_up, hq]
theorem n_obj (B : nB Y X own cc nL ret k) {i a : Nat} (d : decode cc pc = .ok (.invokespecial i, 3)) (hq : pc + 3 = q) (hw : Cond.methodLink own i Lib.objectInit ∈ lw_g) (h1 : Cond.instanceMethod Lib.objectInit ∈ lw_g) (h2 : Cond.code Lib.objectInit ⟨#[0xb1]⟩ 1 none ∈ lw_g) (hk : 1 ≤ k) (hrest : (st.map fun v => v.category).sum ≤ 8) (kk : nW Y X E z q L st) : nW Y X E z pc L (.ref a :: st) := by
  subst hq
  intro H locs ls hH hl
  have hts := B.2.2.2.2.2.1
  refine W.objInit B.1 B.2.1 B.2.2.2.2.1 (hts _ hw) (hts _ h1) (hts _ h2) rfl hl.1 rfl d (Nat.le_trans hk B.2.2.2.2.2.2.2.2.1) ?_ ?_
  · have := B.2.2.2.2.2.2.2.2.2.1
    show 0 + _ + 12 ≤ _
    omega
  · exact kk H locs ls hH hl
theorem n_vret (B : nB Y X own cc nL none k) {E2 : nE} {z2 mc ms : Nat} (Z : nZ Y X E2 z2 mc ms) (d : decode cc pc = .ok (.return_, 1)) (hc : xCells X ≤ mc) (hs : xSlots X ≤ ms) (hE : ∀ (a : Nat) (e : va_E), E2 a = some e → E a = some e) (hz : z = z2) : nW Y X E z pc L [] := by
  intro H locs ls hH hl
  obtain ⟨a1, a2, a3, a4, a5⟩ := hH
  unfold gU
  rw [show xQ X = _ from Z]
  refine W.widen (k := mc) (n := ms) hc hs ?_
  exact W.vret B.1 B.2.1 B.2.2.2.1 (fun t ht _ => ⟨⟨rfl, fun a e he => by rw [ht]; exact a1 a e (hE a e he), by rw [ht, a2, hz]⟩, by rw [ht]; exact a3, fun q hq => by rw [ht]; exact a4 q hq⟩) a5 d (hlocks := B.2.2.2.2.2.2.2.1)
theorem nPc_pre {s : State} {H : Heap} {locs : List Loc} {av : List Value} (hK : va_K (yD Y) vwCl (gTys Y) s) (hyb : yB Y ≤ s.heap.size ∧ nN s) (hH : nH Y s E z H locs) : ∀ U : State, U.heap = H → s.WarmedH U.vm → nPc Y E z av av.toArray U := fun U hU hW => ⟨rfl, va_K.moved hW.alike hK, by rw [hU]; exact hH.1, by rw [hU]; exact hH.2.1, by rw [hU]; exact Nat.le_trans hyb.1 hH.2.2.1, nN.warm hW hyb.2⟩
theorem nPc_blind {av : List Value} : FrameBlind (nPc Y E z av) := fun a U g mk h => ⟨h.1, va_K.moved (u := U) (U := U.calling g mk a) (Vm.Alike.refl U.vm) h.2.1, h.2.2.1, h.2.2.2.1, h.2.2.2.2.1, nN.warm (s := U) (U := U.calling g mk a) (State.WarmedH.refl U) h.2.2.2.2.2⟩
theorem n_fin {E2 : nE} {z2 mc ms : Nat} {H : Heap} {locs : List Loc} {ls : Array Slot} {st0 : List Value} {a : Array Value} (B : nB Y X own cc nL ret k) (hH : nH Y (xS X) E z H locs) (hl : lv_has ls (xC X).maxLocals L) (hzz : z ≤ z2)
    (hr : va_Run (xP X) (xL X) (xE X) (xR X) (xS X) (xM X) (xArgs X) (xBelow X) (xMeth X) (xC X) H locs (xCells X) (xSlots X) mc ms (F0 (xM X) pc ls st0) st (nQc Y E2 z2 a) (gF Y)) (h1 : xCells X + mc ≤ (xR X).cells) (h2 : xSlots X + ms ≤ (xR X).slots)
    (kk : nB Y (xAt X (xCells X + mc) (xSlots X + ms)) own cc nL ret k → nW Y (xAt X (xCells X + mc) (xSlots X + ms)) E2 z2 (pc + 3) L st) : gU X H locs (F0 (xM X) pc ls st0) := by
  intro T hT XX
  obtain ⟨v, st₀, t, T', Ls, h0, X', hL, e1, e2, ⟨⟨hv, hP, hs2⟩, hz, hk⟩, stp⟩ := hr T hT XX
  cases hv
  rw [h0] at hz hk
  obtain ⟨q1, q2, q3, q4, q5⟩ := hH
  obtain ⟨t2, a1, b1⟩ := kk (nB_at B h1 h2) T'.heap (locs ++ Ls) ls ⟨by rw [e1]; exact hP, by rw [e1]; exact hs2, by rw [e1]; exact Nat.le_trans q3 hz, fun q hq => by rw [e1, hk q hq]; exact q4 q hq, fun lc hlc => by
      rcases List.mem_append.mp hlc with h | h
      · exact q5 lc h
      · exact hL lc h⟩ hl T' rfl X'
  exact ⟨t2, stp t2 a1, b1⟩
/-- a constructor's call -/
theorem n_ctor (B : nB Y X own cc nL ret k) {y : MethodName} {bytes : ByteArray} {mL kc i a : Nat} {E2 : nE} {z2 mc ms : Nat} (d : decode cc pc = .ok (.invokespecial i, 3)) (hq : pc + 3 = q) (hM : nM Y (xL X) y bytes mL kc E z [.ref a] E2 z2 mc ms) (w1 : Cond.code y bytes mL none ∈ lw_g) (w2 : Cond.instanceMethod y ∈ lw_g) (w3 : Cond.initialized y.cls ∈ lw_g) (w4 : Cond.methodLink own i y ∈ lw_g) (hy : y.name = "<init>") (hd : y.cls ≠ "java/lang/invoke/MethodHandle" ∧ y.cls ≠ "java/lang/invoke/VarHandle" ∧ (parseMethodDescriptor y.desc).map (fun d => d.parameters.length) = some 0) (hkk : kc + 1 ≤ k) (hmL : mL + 19 ≤ 40) (hzz : z ≤ z2) (hrest : (st.map fun v => v.category).sum ≤ 8) (h1 : xCells X + mc ≤ (xR X).cells) (h2 : xSlots X + ms ≤ (xR X).slots)
    (kk : nB Y (xAt X (xCells X + mc) (xSlots X + ms)) own cc nL ret k → nW Y (xAt X (xCells X + mc) (xSlots X + ms)) E2 z2 q L st) : nW Y X E z pc L (.ref a :: st) := by
  subst hq
  intro H locs ls hH hl
  have hts := B.2.2.2.2.2.1
  have hroom : (nRoom kc mc ms).frames + 1 ≤ (xR X).frames ∧ 8 + (mL + 11) + (nRoom kc mc ms).locals ≤ (xR X).locals := by
    have a := B.2.2.2.2.2.2.2.2.1
    have b := B.2.2.2.2.2.2.2.2.2.1
    show kc + 1 ≤ _ ∧ 8 + (mL + 11) + 40 * kc ≤ _
    omega
  exact n_fin B hH hl hzz (va_runI (As := []) (rest := st) ⟨B.1, B.2.1, B.2.2.1, B.2.2.2.2.1, hts⟩ hM (cwI 0 hts (lw_gc w1) rfl rfl rfl (hts _ w3) (hts _ w4) (hts _ w2) hy hd hroom) ⟨nPc_blind, nPc_pre B.2.2.2.2.2.2.1 B.2.2.2.2.2.2.2.2.2.2.2.2 hH⟩ rfl rfl (hl.1.trans B.2.2.1) rfl (lv_room hrest) d ⟨h1, h2⟩) h1 h2 kk
theorem n_ctorN (B : nB Y X own cc nL ret k) {y : MethodName} {bytes : ByteArray} {mL kc i a : Nat} {E2 : nE} {z2 mc ms : Nat} (d : decode cc pc = .ok (.invokespecial i, 3)) (hq : pc + 3 = q) (hM : nM Y (xL X) y bytes mL kc E z [.ref a] E2 z2 mc ms) (w1 : Cond.code y bytes mL none ∈ lw_g) (w2 : Cond.instanceMethod y ∈ lw_g) (w3 : Cond.initialized y.cls ∈ lw_g) {host : String} (w4 : Cond.methodLinkNest own i y host ∈ lw_nest) (hy : y.name = "<init>") (hd : y.cls ≠ "java/lang/invoke/MethodHandle" ∧ y.cls ≠ "java/lang/invoke/VarHandle" ∧ (parseMethodDescriptor y.desc).map (fun d => d.parameters.length) = some 0) (hkk : kc + 1 ≤ k) (hmL : mL + 19 ≤ 40) (hzz : z ≤ z2) (hrest : (st.map fun v => v.category).sum ≤ 8) (h1 : xCells X + mc ≤ (xR X).cells) (h2 : xSlots X + ms ≤ (xR X).slots)
    (kk : nB Y (xAt X (xCells X + mc) (xSlots X + ms)) own cc nL ret k → nW Y (xAt X (xCells X + mc) (xSlots X + ms)) E2 z2 q L st) : nW Y X E z pc L (.ref a :: st) := by
  subst hq
  intro H locs ls hH hl
  have hts := B.2.2.2.2.2.1
  have hroom : (nRoom kc mc ms).frames + 1 ≤ (xR X).frames ∧ 8 + (mL + 11) + (nRoom kc mc ms).locals ≤ (xR X).locals := by
    have a := B.2.2.2.2.2.2.2.2.1
    have b := B.2.2.2.2.2.2.2.2.2.1
    show kc + 1 ≤ _ ∧ 8 + (mL + 11) + 40 * kc ≤ _
    omega
  exact n_fin B hH hl hzz (va_runIN (As := []) (rest := st) ⟨B.1, B.2.1, B.2.2.1, B.2.2.2.2.1, hts⟩ hM ⟨va_cnB 0 hts (lw_gc w1) rfl rfl rfl (B.2.2.2.2.2.2.2.2.2.2.2.2.2.1 _ w4) (hts _ w3) hd hroom, hy, hts _ w2⟩ ⟨nPc_blind, nPc_pre B.2.2.2.2.2.2.1 B.2.2.2.2.2.2.2.2.2.2.2.2 hH⟩ rfl rfl (hl.1.trans B.2.2.1) rfl (lv_room hrest) d ⟨h1, h2⟩) h1 h2 kk
theorem n_callS (B : nB Y X own cc nL ret k) {y : MethodName} {bytes : ByteArray} {mL kc i a : Nat} {E2 : nE} {z2 mc ms : Nat} (d : decode cc pc = .ok (.invokestatic i, 3)) (hq : pc + 3 = q) (hM : nM Y (xL X) y bytes mL kc E z [.ref a] E2 z2 mc ms) (w1 : Cond.code y bytes mL none ∈ lw_g) (w2 : Cond.static y ∈ lw_g) (w3 : Cond.initialized y.cls ∈ lw_g) (w4 : Cond.methodLink own i y ∈ lw_g) (hd : y.cls ≠ "java/lang/invoke/MethodHandle" ∧ y.cls ≠ "java/lang/invoke/VarHandle" ∧ (parseMethodDescriptor y.desc).map (fun d => d.parameters.length) = some 1) (hkk : kc + 1 ≤ k) (hmL : mL + 19 ≤ 40) (hzz : z ≤ z2) (hrest : (st.map fun v => v.category).sum ≤ 8) (h1 : xCells X + mc ≤ (xR X).cells) (h2 : xSlots X + ms ≤ (xR X).slots)
    (kk : nB Y (xAt X (xCells X + mc) (xSlots X + ms)) own cc nL ret k → nW Y (xAt X (xCells X + mc) (xSlots X + ms)) E2 z2 q L st) : nW Y X E z pc L (.ref a :: st) := by
  subst hq
  intro H locs ls hH hl
  have hts := B.2.2.2.2.2.1
  have hroom : (nRoom kc mc ms).frames + 1 ≤ (xR X).frames ∧ 8 + (mL + 11) + (nRoom kc mc ms).locals ≤ (xR X).locals := by
    have a := B.2.2.2.2.2.2.2.2.1
    have b := B.2.2.2.2.2.2.2.2.2.1
    show kc + 1 ≤ _ ∧ 8 + (mL + 11) + 40 * kc ≤ _
    omega
  have hG : GoodIn lw_g (va_wsS own i y (Cond.code y bytes mL none :: lw_g)) := goodIn_app (fun w hw' => by
    simp only [List.mem_cons, List.not_mem_nil, or_false] at hw'
    rcases hw' with rfl | rfl | rfl
    · exact lw_gg _ w4
    · exact lw_gg _ w2
    · exact lw_gg _ w3) (lw_gc w1)
  exact n_fin B hH hl hzz (va_runS (As := [.ref a]) (rest := st) ⟨B.1, B.2.1, B.2.2.1, B.2.2.2.2.1, hts⟩ hM (va_cwS 1 hts hG rfl rfl rfl hd hroom) ⟨nPc_blind, nPc_pre B.2.2.2.2.2.2.1 B.2.2.2.2.2.2.2.2.2.2.2.2 hH⟩ rfl rfl (hl.1.trans B.2.2.1) rfl (lv_room hrest) d ⟨h1, h2⟩) h1 h2 kk
/-! the same, the room used so far as numbers -/
variable {c n c' n' : Nat}
theorem m_new (B : nB Y (xAt X c n) own cc nL ret k) {i ci : Nat} {C : String} {T : u_T} {N : Nat} {ty : Nat → FieldType} {fs : List Value} (d : decode cc pc = .ok (.new i, 3)) (hq : pc + 3 = q) (hc : gCls ci C T N ty) (w1 : Cond.classLink own i C ∈ lw_g) (w2 : Cond.instantiable C N ∈ lw_g) (w3 : Cond.initialized C ∈ lw_g) (hfs : ∀ j, j < N → defaultValue (ty j) = vp_V fs j) (e1 : c + 1 = c') (e2 : n + N = n') (h1 : c' ≤ (xR X).cells) (h2 : n' ≤ (xR X).slots)
    (kk : nB Y (xAt X c' n') own cc nL ret k → nW Y (xAt X c' n') (ue E z (.inr (ci, fs))) (z + 1) q L (.ref z :: st)) : nW Y (xAt X c n) E z pc L st := by
  subst e1; subst e2
  exact n_new B d hq hc w1 w2 w3 hfs h1 h2 kk
theorem m_newa (B : nB Y (xAt X c n) own cc nL ret k) {aty : ArrayType} {ty : FieldType} {t0 : Nat} {cA : ClassId} {N : Nat} {a0 : vp_A} (d : decode cc pc = .ok (.newarray aty, 2)) (hq : pc + 2 = q) (hty : newarray.typeOf aty = ty) (ht : (gTys Y)[t0]? = some (cA, ty)) (hnm : va_RA (xS X) cA ty → (xS X).vm.findClass ("[" ++ ty.toString) = some cA) (harr : Cond.arrayClass ty ∈ lw_g) (ha : vp_cell cA a0 = arrV cA N (fun _ => defaultValue ty)) (hN : N < 1000) (hbytes : N * componentBytes ty ≤ 536870912) (e1 : c + 1 = c') (e2 : n + N = n') (h1 : c' ≤ (xR X).cells) (h2 : n' ≤ (xR X).slots)
    (kk : nB Y (xAt X c' n') own cc nL ret k → nW Y (xAt X c' n') (ue E z (.inl (cA, a0))) (z + 1) q L (.ref z :: st)) : nW Y (xAt X c n) E z pc L (.int (iI (N : Int)) :: st) := by
  subst e1; subst e2
  exact n_newa (X := xAt X c n) B d hq hty ht hnm harr ha hN hbytes h1 h2 kk
theorem m_anewa (B : nB Y (xAt X c n) own cc nL ret k) {i : Nat} {N : Nat} (d : decode cc pc = .ok (.anewarray i, 3)) (hq : pc + 3 = q) (w1 : Cond.classLink own i "NecklaceSisters$Necklace" ∈ lw_g) (hN : N < 1000) (e1 : c + 1 = c') (e2 : n + N = n') (h1 : c' ≤ (xR X).cells) (h2 : n' ≤ (xR X).slots)
    (kk : nB Y (xAt X c' n') own cc nL ret k → nW Y (xAt X c' n') (ue E z (.inl (yC Y 4, N, .inr (.inr (.inr (.inr fun _ => none)))))) (z + 1) q L (.ref z :: st)) : nW Y (xAt X c n) E z pc L (.int (iI (N : Int)) :: st) := by
  subst e1; subst e2
  exact n_anewa (X := xAt X c n) B d hq w1 hN h1 h2 kk
theorem m_ctor (B : nB Y (xAt X c n) own cc nL ret k) {y : MethodName} {bytes : ByteArray} {mL kc i a : Nat} {E2 : nE} {z2 mc ms : Nat} (d : decode cc pc = .ok (.invokespecial i, 3)) (hq : pc + 3 = q) (hM : nM Y (xL X) y bytes mL kc E z [.ref a] E2 z2 mc ms) (w1 : Cond.code y bytes mL none ∈ lw_g) (w2 : Cond.instanceMethod y ∈ lw_g) (w3 : Cond.initialized y.cls ∈ lw_g) (w4 : Cond.methodLink own i y ∈ lw_g) (hy : y.name = "<init>") (hd : y.cls ≠ "java/lang/invoke/MethodHandle" ∧ y.cls ≠ "java/lang/invoke/VarHandle" ∧ (parseMethodDescriptor y.desc).map (fun d => d.parameters.length) = some 0) (hkk : kc + 1 ≤ k) (hmL : mL + 19 ≤ 40) (hzz : z ≤ z2) (hrest : (st.map fun v => v.category).sum ≤ 8) (e1 : c + mc = c') (e2 : n + ms = n') (h1 : c' ≤ (xR X).cells) (h2 : n' ≤ (xR X).slots)
    (kk : nB Y (xAt X c' n') own cc nL ret k → nW Y (xAt X c' n') E2 z2 q L st) : nW Y (xAt X c n) E z pc L (.ref a :: st) := by
  subst e1; subst e2
  exact n_ctor (X := xAt X c n) B d hq hM w1 w2 w3 w4 hy hd hkk hmL hzz hrest h1 h2 kk
theorem m_ctorN (B : nB Y (xAt X c n) own cc nL ret k) {y : MethodName} {bytes : ByteArray} {mL kc i a : Nat} {E2 : nE} {z2 mc ms : Nat} (d : decode cc pc = .ok (.invokespecial i, 3)) (hq : pc + 3 = q) (hM : nM Y (xL X) y bytes mL kc E z [.ref a] E2 z2 mc ms) (w1 : Cond.code y bytes mL none ∈ lw_g) (w2 : Cond.instanceMethod y ∈ lw_g) (w3 : Cond.initialized y.cls ∈ lw_g) {host : String} (w4 : Cond.methodLinkNest own i y host ∈ lw_nest) (hy : y.name = "<init>") (hd : y.cls ≠ "java/lang/invoke/MethodHandle" ∧ y.cls ≠ "java/lang/invoke/VarHandle" ∧ (parseMethodDescriptor y.desc).map (fun d => d.parameters.length) = some 0) (hkk : kc + 1 ≤ k) (hmL : mL + 19 ≤ 40) (hzz : z ≤ z2) (hrest : (st.map fun v => v.category).sum ≤ 8) (e1 : c + mc = c') (e2 : n + ms = n') (h1 : c' ≤ (xR X).cells) (h2 : n' ≤ (xR X).slots)
    (kk : nB Y (xAt X c' n') own cc nL ret k → nW Y (xAt X c' n') E2 z2 q L st) : nW Y (xAt X c n) E z pc L (.ref a :: st) := by
  subst e1; subst e2
  exact n_ctorN (X := xAt X c n) B d hq hM w1 w2 w3 w4 hy hd hkk hmL hzz hrest h1 h2 kk
theorem m_callS (B : nB Y (xAt X c n) own cc nL ret k) {y : MethodName} {bytes : ByteArray} {mL kc i a : Nat} {E2 : nE} {z2 mc ms : Nat} (d : decode cc pc = .ok (.invokestatic i, 3)) (hq : pc + 3 = q) (hM : nM Y (xL X) y bytes mL kc E z [.ref a] E2 z2 mc ms) (w1 : Cond.code y bytes mL none ∈ lw_g) (w2 : Cond.static y ∈ lw_g) (w3 : Cond.initialized y.cls ∈ lw_g) (w4 : Cond.methodLink own i y ∈ lw_g) (hd : y.cls ≠ "java/lang/invoke/MethodHandle" ∧ y.cls ≠ "java/lang/invoke/VarHandle" ∧ (parseMethodDescriptor y.desc).map (fun d => d.parameters.length) = some 1) (hkk : kc + 1 ≤ k) (hmL : mL + 19 ≤ 40) (hzz : z ≤ z2) (hrest : (st.map fun v => v.category).sum ≤ 8) (e1 : c + mc = c') (e2 : n + ms = n') (h1 : c' ≤ (xR X).cells) (h2 : n' ≤ (xR X).slots)
    (kk : nB Y (xAt X c' n') own cc nL ret k → nW Y (xAt X c' n') E2 z2 q L st) : nW Y (xAt X c n) E z pc L (.ref a :: st) := by
  subst e1; subst e2
  exact n_callS (X := xAt X c n) B d hq hM w1 w2 w3 w4 hd hkk hmL hzz hrest h1 h2 kk
end GNR
