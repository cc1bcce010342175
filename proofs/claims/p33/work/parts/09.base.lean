/-! THE LAYER G: the whole world is a function of a state of whole numbers (cell, place) -> Int; a method's walk carries the state, the place in the code, the locals, the stack -/
def iI (z : Int) : Int32 := Int32.ofInt z
def lI (z : Int) : Int64 := Int64.ofInt z
/-- a state: to each cell (its number) a row of whole numbers -/
abbrev SS : Type := Nat → Int → Int
def uq (g : Int → Int) (c x : Int) : Int → Int := fun b => if b = c then x else g b
def us (S : SS) (n : Nat) (g : Int → Int) : SS := fun a => if a = n then g else S a
theorem us_eq (S : SS) (n : Nat) (g : Int → Int) : us S n g n = g := if_pos rfl
theorem us_ne (S : SS) {n m : Nat} (g : Int → Int) (h : m ≠ n) : us S n g m = S m := if_neg h
theorem us_us (S : SS) (n : Nat) (g h : Int → Int) : us (us S n g) n h = us S n h := by
  funext a
  by_cases e : a = n <;> simp [us, e]
theorem us_id (S : SS) (n : Nat) : us S n (S n) = S := by
  funext a
  by_cases e : a = n
  · subst e; exact us_eq S a _
  · exact us_ne S _ e
theorem us_comm (S : SS) {n m : Nat} (g h : Int → Int) (hne : n ≠ m) : us (us S n g) m h = us (us S m h) n g := by
  funext a
  by_cases e : a = m
  · subst e; rw [us_eq, us_ne _ _ (Ne.symm hne), us_eq]
  · by_cases e2 : a = n
    · subst e2; rw [us_ne _ _ e, us_eq, us_eq]
    · rw [us_ne _ _ e, us_ne _ _ e2, us_ne _ _ e2, us_ne _ _ e]
theorem uq_eq (g : Int → Int) (c x : Int) : uq g c x c = x := if_pos rfl
theorem uq_ne (g : Int → Int) {c b : Int} (x : Int) (h : b ≠ c) : uq g c x b = g b := if_neg h
abbrev gY : Type := va_G × Nat × (Nat → Nat) × (Nat → ClassId) × (Nat → Nat) × (Nat → Nat)
def yD (Y : gY) : va_G := Y.1
def yB (Y : gY) : Nat := Y.2.1
def yA (Y : gY) : Nat → Nat := Y.2.2.1
def yC (Y : gY) : Nat → ClassId := Y.2.2.2.1
def yK (Y : gY) : Nat → Nat := Y.2.2.2.2.1
def yV (Y : gY) : Nat → Nat := Y.2.2.2.2.2
def gTys (Y : gY) : List (ClassId × FieldType) := [(yC Y 0, .int), (yC Y 1, .char), (yC Y 2, .long), (yC Y 3, .int), (yC Y 4, .object "NecklaceSisters$Necklace")]
/-- a necklace (number i, 0 to 17): its object at the cell 4 i, its three rows at the next ones -/
def cN (Y : gY) (n : Nat) (g : Int → Int) : va_E := .inr (2, [.int (iI (g 0)), .int (iI (g 1)), .int (iI (g 2)), .int (iI (g 3)), .int (iI (g 4)), .int (iI (g 5)), .ref (yA Y (n + 1)), .ref (yA Y (n + 2)), .ref (yA Y (n + 3))])
def cI (Y : gY) (N : Nat) (g : Int → Int) : va_E := .inl (yC Y 0, N, .inl fun j => iI (g j))
def cO (Y : gY) (g : Int → Int) : Nat → Option va_E
  | 0 => some (.inr (5, [.ref (yA Y 73), .ref (yA Y 0), .ref (yA Y 4), .ref (yA Y 75), .ref (yA Y 77), .ref (yA Y 80), .ref (yA Y 81)]))
  | 1 => some (.inr (4, [.ref (yA Y 74), .int (iI (g 0))]))
  | 2 => some (.inl (yC Y 1, 120, .inl fun j => iI (g j)))
  | 3 => some (.inr (1, [.ref (yA Y 76), .int (iI (g 0)), .int (iI (g 1))]))
  | 4 => some (.inl (yC Y 4, 14, .inr (.inr (.inr (.inr fun j => some (yA Y (4 * (4 + j))))))))
  | 5 => some (.inr (0, [.ref (yA Y 78), .ref (yA Y 79), .int (iI (g 0)), .long (lI (g 1))]))
  | 6 => some (.inl (yC Y 2, 17, .inr (.inl fun j => lI (g j))))
  | 7 => some (cI Y 6 g)
  | 8 => some (.inr (3, [.ref (yA Y 8), .int (iI (g 0))]))
  | 9 => some (.inr (3, [.ref (yA Y 12), .int (iI (g 0))]))
  | _ => none
/-- two objects in one world: the second one's cells are the first one's, 100 behind -/
def sw (n : Nat) : Nat := if n / 100 % 2 = 0 then n + 100 else n - 100
theorem sw_sw (n : Nat) : sw (sw n) = n := by
  unfold sw
  by_cases h : n / 100 % 2 = 0
  · rw [if_pos h, if_neg (by omega)]; omega
  · rw [if_neg h, if_pos (by omega)]; omega
theorem sw_lo {n : Nat} (h : n < 100) : sw n = n + 100 := by unfold sw; rw [if_pos (by omega)]
theorem sw_hi {n : Nat} (h : 100 ≤ n) (h2 : n < 200) : sw n = n - 100 := by unfold sw; rw [if_neg (by omega)]
def ySw (Y : gY) : gY := (Y.1, Y.2.1, fun n => yA Y (sw n), Y.2.2.2)
theorem ySw_ySw (Y : gY) : ySw (ySw Y) = Y := by
  show (Y.1, Y.2.1, (fun n => yA Y (sw (sw n))), Y.2.2.2) = Y
  rw [show (fun n => yA Y (sw (sw n))) = Y.2.2.1 from funext fun n => congrArg (yA Y) (sw_sw n)]
def sS (S : SS) : SS := fun n => S (sw n)
theorem sS_sS (S : SS) : sS (sS S) = S := funext fun n => congrArg S (sw_sw n)
def cw1 (Y : gY) (n : Nat) (g : Int → Int) : Option va_E := if n < 72 then (if n % 4 = 0 then some (cN Y n g) else some (cI Y 16 g)) else cO Y g (n - 72)
def cw (Y : gY) (n : Nat) (g : Int → Int) : Option va_E := if n / 100 % 2 = 0 then cw1 Y n g else cw1 (ySw Y) (sw n) g
theorem cw_sw (Y : gY) (n : Nat) (g : Int → Int) : cw (ySw Y) (sw n) g = cw Y n g := by
  unfold cw
  by_cases h : n / 100 % 2 = 0
  · rw [if_pos h, if_neg (show ¬ sw n / 100 % 2 = 0 by unfold sw; rw [if_pos h]; omega), ySw_ySw, sw_sw]
  · rw [if_neg h, if_pos (show sw n / 100 % 2 = 0 by unfold sw; rw [if_neg h]; omega)]
theorem cw_N {Y : gY} {i : Nat} (h : i < 18) (g : Int → Int) : cw Y (4 * i) g = some (cN Y (4 * i) g) := by
  rw [cw, if_pos (by omega), cw1, if_pos (by omega), if_pos (by omega)]
theorem cw_R {Y : gY} {i : Nat} (h : i < 18) (c : Nat) (h1 : 0 < c ∧ c < 4) (g : Int → Int) : cw Y (4 * i + c) g = some (cI Y 16 g) := by
  rw [cw, if_pos (by omega), cw1, if_pos (by omega), if_neg (by omega)]
def gP (Y : gY) (S : SS) (H : Heap) : Prop := ∀ (n : Nat) (e : va_E), cw Y n (S n) = some e → va_at (yD Y) vwCl (yA Y n, e) H
def gI (Y : gY) : Prop := (∀ i j : Nat, yA Y i = yA Y j → i = j) ∧ ∀ i : Nat, yB Y ≤ yA Y i
def gF (Y : gY) : Addr → Prop := fun q => yB Y ≤ q
/-- the class's own texts, of what it throws -/
def gStrX : List (Nat × String) := [(52, "c is not 0 to 255"), (63, "the text has 120 characters"), (74, "the text is not a necklace"), (121, "what is not 0 to 9"), (129, "no such jewel"), (142, "what is not 0 to 2"), (147, "no such place"), (161, "what is not 0 to 3"), (166, "no such run"), (183, "no such sister or kind"), (189, "no such kind"), (194, "weight is not 1 to 9"), (196, "there are 16 jewels"), (225, "owner is not 0, 1 or NONE"), (236, "no such sister"), (244, "the string cannot be divided"), (255, "v is neither 0 nor 1"), (263, "no state is remembered"), (268, "way is neither 0 nor 1"), (277, "k is negative"), (279, "m is not 0 to 4"), (290, "n is not 1 to 3"), (298, "script is negative or too long"), (309, "m is not 1 to 60"), (322, "no such save slot"), (327, "nothing has been saved in this slot")]
/-- the six texts of a command's form: their places in the class file, their signs -/
def gTxI : Nat → Nat × String
  | 0 => (37, "")
  | 1 => (27, "kw")
  | 2 => (29, "tu")
  | 3 => (31, "tp")
  | 4 => (33, "tuo")
  | _ => (35, "z")
def gTxB : Nat → List Int32
  | 0 => []
  | 1 => [107, 119]
  | 2 => [116, 117]
  | 3 => [116, 112]
  | 4 => [116, 117, 111]
  | _ => [122]
/-- words of exceptions that the tables alone decide -/
def gOt : List Cond := [.castable "java/lang/IllegalArgumentException" "java/lang/IllegalArgumentException", .castable "java/lang/IllegalStateException" "java/lang/IllegalStateException", .castable "java/lang/IndexOutOfBoundsException" "java/lang/IndexOutOfBoundsException", .declares ⟨"java/lang/RuntimeException", "<init>", "(Ljava/lang/String;)V"⟩, .declares ⟨"java/lang/Exception", "<init>", "(Ljava/lang/String;)V"⟩, .declares ⟨"java/lang/Throwable", "<init>", "(Ljava/lang/String;)V"⟩]
def gNcs : List (String × String) := [("java/lang/IllegalStateException", "java/lang/IllegalArgumentException"), ("java/lang/IllegalArgumentException", "java/lang/IndexOutOfBoundsException"), ("java/lang/IllegalStateException", "java/lang/IndexOutOfBoundsException")]
theorem decl_warm {args args' : Array Value} {s U : State} (hW : s.WarmedH U.vm) {x : MethodName} (h : (Cond.declares x).before args s = true) : (Cond.declares x).before args' U = true := by
  have h1 : (Cond.declares x).before args (s.setVm U.vm) = true := by
    simp only [Cond.before, Cond.holds, Cond.value] at h ⊢
    rw [State.methodNamed?_setVm hW.alike]
    rw [show (s.setVm U.vm).vm.method? = s.vm.method? from funext hW.alike.method?]
    exact h
  exact va_tabs (A := args) (u := s.setVm U.vm) rfl rfl h1
theorem cast_warm {args args' : Array Value} {s U : State} (hW : s.WarmedH U.vm) {E n : String} (h : (Cond.castable E n).before args s = true) : (Cond.castable E n).before args' U = true := by
  obtain ⟨c, t, h1, h2, h3⟩ := Cond.castable_spec h
  simp only [Cond.before, Cond.holds, Cond.value]
  rw [hW.alike.findClass, hW.alike.findClass, h1, h2]
  show (some (U.vm.assignable c t) == some true) = true
  rw [hW.alike.assignable, h3]
  rfl
theorem gOt_warm {args args' : Array Value} {s U : State} (hW : s.WarmedH U.vm) (h : ∀ w ∈ gOt, w.before args s = true) : ∀ w ∈ gOt, w.before args' U = true := by
  intro w hw
  have h1 := h w hw
  simp only [gOt, List.mem_cons, List.not_mem_nil, or_false] at hw
  rcases hw with rfl | rfl | rfl | rfl | rfl | rfl
  · exact cast_warm hW h1
  · exact cast_warm hW h1
  · exact cast_warm hW h1
  · exact decl_warm hW h1
  · exact decl_warm hW h1
  · exact decl_warm hW h1
def gTx (Y : gY) (i : Nat) (U : State) : Prop := vk_R "NecklaceSisters$Text" (gTxI i).1 (gTxI i).2 (yK Y i) U ∧ va_O "java/lang/String" (yK Y i) (gF Y) U U.heap ∧ va_OF "java/lang/String" "coder" "B" (.int 0) (yK Y i) (gF Y) U U.heap ∧ va_OF "java/lang/String" "value" "[B" (.ref (yV Y i)) (yK Y i) (gF Y) U U.heap ∧ va_T .byte (yV Y i) (gTxB i).length (fun j => .int ((gTxB i).getD j 0)) (gF Y) U U.heap
/-- the world beside the law's own cells: what a throw and a text want of it -/
def gXS (Y : gY) (U : State) : Prop := vx_Zq Bundle.tN "UNASSIGNED_STACK" Bundle.steD (gF Y) U U.heap ∧ vx_Zq Bundle.tN "SUPPRESSED_SENTINEL" Bundle.listD (gF Y) U U.heap ∧ va_Z "java/lang/String" "COMPACT_STRINGS" "Z" (.int 1) (gF Y) U U.heap ∧ va_Zq "jdk/internal/util/Preconditions" "SIOOBE_FORMATTER" "Ljava/util/function/BiFunction;" (gF Y) U U.heap ∧ (∀ q ∈ gStrX, ∃ a : Nat, vk_R "NecklaceSisters" q.1 q.2 a U) ∧ (∀ i : Nat, i < 6 → gTx Y i U) ∧ (∀ w ∈ gOt, w.before #[] U = true) ∧ ∀ q ∈ gNcs, va_Nc q.1 q.2 U
theorem gXS.warm {Y : gY} {s U : State} (hW : s.WarmedH U.vm) (hk : ∀ q : Nat, q < yB Y → U.heap[q]? = s.heap[q]?) (h : gXS Y s) : gXS Y U := by
  have hq : ∀ a : Nat, a < s.heap.size → ¬ gF Y a → U.heap[a]? = s.heap[a]? := fun a _ ha => hk a (Nat.lt_of_not_le ha)
  obtain ⟨h1, h2, h3, h4, h5, h6, h7, h8⟩ := h
  refine ⟨vx_Zq.moved hW.alike (h1.kept hq), vx_Zq.moved hW.alike (h2.kept hq), va_Z.moved hW.alike (h3.kept hq), va_Zq.moved hW.alike (h4.kept hq), fun q hm => ?_, fun i hi => ?_, gOt_warm hW h7, fun q hq => (h8 q hq).moved hW.alike⟩
  · obtain ⟨a, ha⟩ := h5 q hm
    exact ⟨a, vk_R.warm hW ha⟩
  · obtain ⟨k1, k2, k3, k4, k5⟩ := h6 i hi
    exact ⟨vk_R.warm hW k1, va_O.moved hW.alike (k2.kept hq), va_OF.moved hW.alike (k3.kept hq), va_OF.moved hW.alike (k4.kept hq), va_T.moved hW.alike (k5.kept hq)⟩
def gC (Y : gY) (U : State) : Prop := gI Y ∧ va_K (yD Y) vwCl (gTys Y) U ∧ (∀ w ∈ lw_nest, va_Nw w U) ∧ yB Y ≤ U.heap.size ∧ gXS Y U
theorem gC.warm {Y : gY} {s U : State} (hW : s.WarmedH U.vm) (hz : s.heap.size ≤ U.heap.size) (hk : ∀ q : Nat, q < yB Y → U.heap[q]? = s.heap[q]?) (h : gC Y s) : gC Y U := by
  obtain ⟨h1, h2, h3, h4, h5⟩ := h
  refine ⟨h1, va_K.moved hW.alike h2, fun w hw => ?_, Nat.le_trans h4 hz, h5.warm hW hk⟩
  have h5 := h3 w hw
  have h6 := (List.mem_filter.mp hw).2
  cases w <;> first | (cases h6; done) | exact va_Nw.warmM hW h5
/-- what a walk holds fast: program, launch, .., what is left of room, the end's predicate -/
abbrev gX : Type := Program × Launch × Env × Room × State × MethodId × Array Value × List Frame × Method × Code × Nat × Nat × (State → Prop)
def xP (X : gX) : Program := X.1
def xL (X : gX) : Launch := X.2.1
def xE (X : gX) : Env := X.2.2.1
def xR (X : gX) : Room := X.2.2.2.1
def xS (X : gX) : State := X.2.2.2.2.1
def xM (X : gX) : MethodId := X.2.2.2.2.2.1
def xArgs (X : gX) : Array Value := X.2.2.2.2.2.2.1
def xBelow (X : gX) : List Frame := X.2.2.2.2.2.2.2.1
def xMeth (X : gX) : Method := X.2.2.2.2.2.2.2.2.1
def xC (X : gX) : Code := X.2.2.2.2.2.2.2.2.2.1
def xCells (X : gX) : Nat := X.2.2.2.2.2.2.2.2.2.2.1
def xSlots (X : gX) : Nat := X.2.2.2.2.2.2.2.2.2.2.2.1
def xQ (X : gX) : State → Prop := X.2.2.2.2.2.2.2.2.2.2.2.2
def gH (Y : gY) (s : State) (H : Heap) (locs : List Loc) (S : SS) : Prop := gP Y S H ∧ s.heap.size ≤ H.size ∧ (∀ q : Nat, q < yB Y → H[q]? = s.heap[q]?) ∧ ∀ lc ∈ locs, yB Y ≤ lc.base
def gU (X : gX) (H : Heap) (locs : List Loc) (g : JFrame) : Prop := W (xP X) (xL X) (xE X) (xR X) (xS X) (xM X) (xArgs X) (xBelow X) (xMeth X) (xC X) H locs (xCells X) (xSlots X) (xQ X) g
/-- THE WALK: with the state S, at pc, locals L, stack st -/
def gW (Y : gY) (X : gX) (S : SS) (pc : Nat) (L : List (Nat × Value)) (st : List Value) : Prop :=
  ∀ (H : Heap) (locs : List Loc) (ls : Array Slot), gH Y (xS X) H locs S → lv_has ls (xC X).maxLocals L → gU X H locs (F0 (xM X) pc ls st)
def gB (Y : gY) (X : gX) (own : String) (cc : ByteArray) (nL : Nat) (ret : Option FieldType) (k : Nat) : Prop :=
  (xP X).tables.exec = Jvm.exec ∧ (xC X).code = cc ∧ (xC X).maxLocals = nL ∧ (xMeth X).sig.returnType = ret ∧ (xS X).vm.findClass own = some (xM X).cls ∧ (∀ w ∈ lw_g, w.before (xArgs X) (xS X) = true) ∧ gC Y (xS X) ∧ (xMeth X).locks = false ∧ k ≤ (xR X).frames ∧ 40 * k ≤ (xR X).locals ∧ xCells X ≤ (xR X).cells ∧ xSlots X ≤ (xR X).slots
def gPc (Y : gY) (S : SS) (av : List Value) : Array Value → State → Prop := fun v U => v = av.toArray ∧ gC Y U ∧ gP Y S U.heap
def gQc (Y : gY) (Post : Option Value → SS → Prop) : Array Value → State → Outcome → State → Prop := fun _ st o t =>
  (∃ (v : Option Value) (S' : SS), o = .returned v ∧ Post v S' ∧ gP Y S' t.heap) ∧ st.heap.size ≤ t.heap.size ∧ ∀ q : Nat, q < yB Y → t.heap[q]? = st.heap[q]?
/-- a method: its name, its bytes, its locals, what it returns, how deep it calls -/
abbrev gMd : Type := MethodName × ByteArray × Nat × Option FieldType × Nat
def gRoom (k : Nat) : Room := { frames := k, cells := 0, slots := 0, locals := 40 * k }
def gM (Y : gY) (l : Launch) (md : gMd) (S : SS) (av : List Value) (Post : Option Value → SS → Prop) : Prop :=
  Met l md.1 (.code md.1 md.2.1 md.2.2.1 md.2.2.2.1 :: lw_g) (gRoom md.2.2.2.2) (gPc Y S av) (gQc Y Post) 0 0 (gF Y)
def gE (Y : gY) (X : gX) (Post : Option Value → SS → Prop) : Prop := xQ X = MQ (xBelow X) (gQc Y Post) (xArgs X) (xS X) (xCells X) (xSlots X) (gF Y)
/-- a method's contract out of its walk -/
theorem gM_of {Y : gY} {l : Launch} {md : gMd} {S : SS} {av : List Value} {Post : Option Value → SS → Prop} (hy : plainName md.1.cls = true) (hlen : (lg_sl av).length ≤ md.2.2.1)
    (h : ∀ X : gX, xL X = l → gB Y X md.1.cls md.2.1 md.2.2.1 md.2.2.2.1 md.2.2.2.2 → gE Y X Post → gW Y X S 0 (lv_args 0 av) []) : gM Y l md S av Post := by
  obtain ⟨y, bytes, nL, ret, k⟩ := md
  dsimp only at hy hlen h
  refine Met.ofW (cc := bytes) (maxL := nL) (ret := ret) hy rfl ?_
  intro p e s m args below meth c s₁ B hml hv
  obtain ⟨rfl, hC, hP⟩ := hv
  have hts := atoms_spec (ws := .code y bytes nL ret :: lw_g) B.pre
  have h1 := h (p, l, e, (headSpec (.code y bytes nL ret :: lw_g) (gRoom k)).room, s, m, av.toArray, below, meth, c, 0, 0, MQ below (gQc Y Post) av.toArray s 0 0 (gF Y)) rfl
    ⟨B.exec, B.bytes, hml, B.returns, findClass_of_methodNamed B.named, fun w hw => hts w (List.mem_cons_of_mem _ hw), hC, B.notSynchronized, Nat.le_refl _, Nat.le_refl _, Nat.le_refl _, Nat.le_refl _⟩ rfl
  have hl := lv_entry av (n := nL) hlen
  have h2 := h1 s.heap [] _ ⟨hP, Nat.le_refl _, fun _ _ => rfl, fun _ h => by cases h⟩ (by show lv_has _ c.maxLocals _; rw [hml]; exact hl)
  show W p l e _ s m _ below meth c s.heap [] 0 0 _ (entryFrame m av.toArray nL)
  rw [lg_entry_eq]
  exact h2
theorem gP_sw1 {Y : gY} {S : SS} {H : Heap} (h : gP (ySw Y) (sS S) H) : gP Y S H := fun n e he => by
  have h1 := h (sw n) e (by rw [cw_sw]; show cw Y n (S (sw (sw n))) = some e; rw [sw_sw]; exact he)
  have h2 : yA (ySw Y) (sw n) = yA Y n := congrArg (yA Y) (sw_sw n)
  rw [h2] at h1
  exact h1
theorem gP_sw (Y : gY) (S : SS) (H : Heap) : gP (ySw Y) (sS S) H ↔ gP Y S H := ⟨gP_sw1, fun h => gP_sw1 (by rw [ySw_ySw, sS_sS]; exact h)⟩
theorem gI_sw1 {Y : gY} (h : gI Y) : gI (ySw Y) := ⟨fun i j e => by
  have h2 := h.1 _ _ e
  have h3 := congrArg sw h2
  rwa [sw_sw, sw_sw] at h3, fun i => h.2 (sw i)⟩
theorem gC_sw1 {Y : gY} {U : State} (h : gC Y U) : gC (ySw Y) U := ⟨gI_sw1 h.1, h.2.1, h.2.2.1, h.2.2.2.1, h.2.2.2.2⟩
theorem gC_sw (Y : gY) (U : State) : gC (ySw Y) U ↔ gC Y U := ⟨fun h => by have h2 := gC_sw1 h; rwa [ySw_ySw] at h2, gC_sw1⟩
theorem gPc_sw (Y : gY) (S : SS) (av : List Value) : gPc (ySw Y) (sS S) av = gPc Y S av := by
  funext v U
  apply propext
  unfold gPc
  rw [gC_sw, gP_sw]
theorem gQc_sw (Y : gY) (Post : Option Value → SS → Prop) : gQc (ySw Y) Post = gQc Y (fun v S' => Post v (sS S')) := by
  funext a st o t
  apply propext
  constructor
  · rintro ⟨⟨v, S', h1, h2, h3⟩, h4⟩
    refine ⟨⟨v, sS S', h1, ?_, ?_⟩, h4⟩
    · show Post v (sS (sS S')); rw [sS_sS]; exact h2
    · exact gP_sw1 (by rw [sS_sS]; exact h3)
  · rintro ⟨⟨v, S', h1, h2, h3⟩, h4⟩
    exact ⟨⟨v, sS S', h1, h2, (gP_sw Y S' _).mpr h3⟩, h4⟩
/-- a contract of the first object is one of the second -/
theorem gM_sw {Y : gY} {l : Launch} {md : gMd} {S : SS} {av : List Value} {Post : Option Value → SS → Prop} (h : gM (ySw Y) l md (sS S) av Post) : gM Y l md S av (fun v S' => Post v (sS S')) := by
  unfold gM at h ⊢
  rw [gPc_sw, gQc_sw] at h
  exact h
