/-! THE LAW'S CALLS OF THE FACE: what is thrown is caught there, and told as a number -/
def xUp (X : gX) : gX := (xP X, xL X, xE X, xR X, xS X, xM X, xArgs X, xBelow X, xMeth X, xC X, xCells X + 1, xSlots X + 6, xQ X)
def gT (Y : gY) (X : gX) (E : String) (S : SS) (pc : Nat) (L : List (Nat × Value)) (st : List Value) : Prop :=
  ∀ (H : Heap) (locs : List Loc) (ls : Array Slot) (q9 : Nat) (ce : Cell), gH Y (xS X) H locs S → lv_has ls (xC X).maxLocals L → H[q9]? = some ce → ce.vm = .none → (xS X).vm.findClass E = some ce.cls →
    vx_W (xP X) (xL X) (xE X) (xR X) (xS X) (xM X) (xArgs X) (xBelow X) (xMeth X) (xC X) H locs (xCells X) (xSlots X) (xQ X) (F0 (xM X) pc ls st) q9
def gVH (Y : gY) (l : Launch) (y : MethodName) (cc : ByteArray) (nL : Nat) (hh : List (Nat × Nat × Nat × Nat)) (k : Nat) (S : SS) (av : List Value) (Post : Option Value → SS → Prop) : Prop :=
  vx_Met l y (.codeWith y cc nL (some .int) hh :: lw_g) (gRoomX k) (gPc Y S av) (gQc Y Post) (XCg Y (fun _ _ => False)) 1 6 (gF Y)
def gZ (Y : gY) (X : gX) (Post : Option Value → SS → Prop) : Prop :=
  xQ X = vx_MQ (xBelow X) (gQc Y Post) (XCg Y (fun _ _ => False)) (xArgs X) (xS X) 1 6 (gF Y) ∧ xCells X ≤ 1 ∧ xSlots X ≤ 6
theorem gVH_of {Y : gY} {l : Launch} {y : MethodName} {cc : ByteArray} {nL : Nat} {hh : List (Nat × Nat × Nat × Nat)} {k : Nat} {S : SS} {av : List Value} {Post : Option Value → SS → Prop} (hy : plainName y.cls = true) (hlen : (lg_sl av).length ≤ nL)
    (h : ∀ X : gX, xL X = l → gB Y X y.cls cc nL (some .int) k → (xC X).exceptionTable.toList = tableOf hh → xCells X = 0 ∧ xSlots X = 0 ∧ 1 ≤ (xR X).cells ∧ 6 ≤ (xR X).slots → gZ Y X Post → gW Y X S 0 (lv_args 0 av) []) : gVH Y l y cc nL hh k S av Post := by
  refine vx_ofWH (cc := cc) (maxL := nL) (ret := some .int) (hh := hh) hy rfl ?_
  intro p e s m args below meth c s₁ B hml hv
  obtain ⟨rfl, hC, hP⟩ := hv
  have hts := atoms_spec (ws := .codeWith y cc nL (some .int) hh :: lw_g) B.pre
  have h1 := h (p, l, e, (headSpec (.codeWith y cc nL (some .int) hh :: lw_g) (gRoomX k)).room, s, m, av.toArray, below, meth, c, 0, 0, vx_MQ below (gQc Y Post) (XCg Y (fun _ _ => False)) av.toArray s 1 6 (gF Y)) rfl
    ⟨B.exec, B.bytes, hml, B.returns, findClass_of_methodNamed B.named, fun w hw => hts w (List.mem_cons_of_mem _ hw), hC, B.notSynchronized, Nat.le_refl _, Nat.le_refl _, Nat.zero_le _, Nat.zero_le _⟩ (vx_table (x := y) B (hts _ List.mem_cons_self)) ⟨rfl, rfl, Nat.le_refl _, Nat.le_refl _⟩ ⟨rfl, Nat.zero_le _, Nat.zero_le _⟩
  have hl := lv_entry av (n := nL) hlen
  have h2 := h1 s.heap [] _ ⟨hP, Nat.le_refl _, fun _ _ => rfl, fun _ h => by cases h⟩ (by show lv_has _ c.maxLocals _; rw [hml]; exact hl)
  show W p l e _ s m _ below meth c s.heap [] 0 0 _ (entryFrame m av.toArray nL)
  rw [lg_entry_eq]
  exact h2
section GWR
variable {Y : gY} {X : gX} {S : SS} {own : String} {cc : ByteArray} {nL : Nat} {ret : Option FieldType} {k : Nat} {pc q : Nat} {L L' : List (Nat × Value)} {st : List Value} {Post : Option Value → SS → Prop} {PX : String → SS → Prop}
theorem gB_up (B : gB Y X own cc nL ret k) (h1 : xCells X + 1 ≤ (xR X).cells) (h2 : xSlots X + 6 ≤ (xR X).slots) : gB Y (xUp X) own cc nL ret k := by
  obtain ⟨a1, a2, a3, a4, a5, a6, a7, a8, a9, b1, -, -⟩ := B
  exact ⟨a1, a2, a3, a4, a5, a6, a7, a8, a9, b1, h1, h2⟩
theorem gz_iret (B : gB Y X own cc nL (some .int) k) (Z : gZ Y X Post) (d : decode cc pc = .ok (.ireturn, 1)) {x : Int32} (h : Post (some (.int x)) S) : gW Y X S pc L [.int x] := by
  intro H locs ls hH hl
  unfold gU
  rw [Z.1]
  refine vx_ret (W.widen (k := 1) (n := 6) Z.2.1 Z.2.2 ?_)
  exact W.iret B.1 B.2.1 B.2.2.2.1 (g_end hH h) hH.2.2.2 d (hlocks := B.2.2.2.2.2.2.2.1)
theorem g_callX (B : gB Y X own cc nL ret k) {md : gMd} {i np : Nat} {As st0 : List Value} (d : decode cc pc = .ok (.invokevirtual i, 3)) (hM : gV Y (xL X) md S (.ref (yA Y 72) :: As) Post PX) (hE : gEV md "NecklaceSisters" np) (hw : Cond.methodLink own i md.1 ∈ lw_g) (hkk : md.2.2.2.2 + 11 ≤ k) (hn : As.length = np) (hst : st0 = As.reverse ++ .ref (yA Y 72) :: st) (hrest : (st.map fun v => v.category).sum ≤ 8)
    (h1 : xCells X + 1 ≤ (xR X).cells) (h2 : xSlots X + 6 ≤ (xR X).slots)
    (kk : ∀ (v : Option Value) (S' : SS), Post v S' → gW Y (xUp X) S' (pc + 3) L (v.toList ++ st)) (kx : ∀ (E : String) (S' : SS), PX E S' → gT Y (xUp X) E S' pc L st) : gW Y X S pc L st0 := by
  intro H locs ls hH hl
  have hP : va_P (yD Y) vwCl [(yA Y 72, .inr (5, [.ref (yA Y 73), .ref (yA Y 0), .ref (yA Y 4), .ref (yA Y 75), .ref (yA Y 77), .ref (yA Y 80), .ref (yA Y 81)]))] H := fun j q0 hj => by
    cases j with
    | zero => cases hj; exact hH.1 72 _ rfl
    | succ j => simp at hj
  obtain ⟨e1, e2, e3, e4, e5, e6, e7⟩ := hE
  obtain ⟨y, bytes, mL, rt, kc⟩ := md
  dsimp only at e1 e2 e3 e4 e5 e6 e7 hw hkk
  have hG : GoodIn lw_g (wsV own i "NecklaceSisters" y (Cond.code y bytes mL rt :: lw_g)) := goodIn_app (fun w hw' => by
    simp only [List.mem_cons, List.not_mem_nil, or_false] at hw'
    rcases hw' with rfl | rfl | rfl | rfl
    · exact lw_gg _ hw
    · exact lw_gg _ e3
    · exact lw_gg _ e4
    · exact lw_gg _ e5) (lw_gc e2)
  have hroom : (gRoomX (kc + 10)).frames + 1 ≤ (xR X).frames ∧ 8 + (mL + 11) + (gRoomX (kc + 10)).locals ≤ (xR X).locals := by
    have a := B.2.2.2.2.2.2.2.2.1
    have b := B.2.2.2.2.2.2.2.2.2.1
    show kc + 10 + 1 ≤ _ ∧ 8 + (mL + 11) + 40 * (kc + 10) ≤ _
    omega
  have hr := vx_runV (As := As) (rest := st) (g := F0 (xM X) pc ls st0) (locs := locs) (cells := xCells X) (slots := xSlots X) (meth := xMeth X) (below := xBelow X) (e := xE X) ⟨B.1, B.2.1, B.2.2.1, B.2.2.2.2.1, B.2.2.2.2.2.1⟩ hM (cwV np B.2.2.2.2.2.1 hG rfl rfl rfl ⟨e1, e6⟩ hroom) ⟨gPc_blind, va_recv B.2.2.2.2.2.2.1.2.1 hP (ci := 5) (q0 := 0) rfl rfl, gPc_pre B.2.2.2.2.2.2.1 hH⟩ rfl hn (hl.1.trans B.2.2.1) hst (lv_room hrest) d ⟨h1, h2⟩
  intro T hT XX
  rcases hr T hT XX with ⟨v, st₀, t, T', Ls, h0, X', hL, e1, e2, ⟨⟨v', S', hv, hp, hP⟩, hz, hk⟩, stp⟩ | ⟨q9, st₀, t, T', Ls, E, ce, h0, X', hL, e1, e2, ⟨⟨S', hp, hP⟩, hz, hk⟩, hce, hcv, hcl, stp⟩
  · cases hv
    rw [h0] at hz hk
    obtain ⟨q1, q2, q3, q4⟩ := hH
    obtain ⟨t2, a1, b1⟩ := kk v S' hp T'.heap (locs ++ Ls) ls ⟨by rw [e1]; exact hP, by rw [e1]; exact Nat.le_trans q2 hz, fun q hq => by rw [e1, hk q hq]; exact q3 q hq, fun lc hlc => by
        rcases List.mem_append.mp hlc with h | h
        · exact q4 lc h
        · exact hL lc h⟩ hl T' rfl X'
    exact ⟨t2, stp t2 a1, b1⟩
  · rw [h0] at hz hk
    obtain ⟨q1, q2, q3, q4⟩ := hH
    obtain ⟨t2, a1, b1⟩ := kx E S' hp T'.heap (locs ++ Ls) ls q9 ce ⟨by rw [e1]; exact hP, by rw [e1]; exact Nat.le_trans q2 hz, fun q hq => by rw [e1, hk q hq]; exact q3 q hq, fun lc hlc => by
        rcases List.mem_append.mp hlc with h | h
        · exact q4 lc h
        · exact hL lc h⟩ hl (by rw [e1]; exact hce) hcv hcl T' rfl X'
    exact ⟨t2, stp.trans a1, b1⟩
theorem g_catch (B : gB Y X "NecklaceSistersLaw" cc nL ret k) {E : String} (pre : List ExceptionTableEntry) (x : ExceptionTableEntry) (suf : List ExceptionTableEntry) (tab : (xC X).exceptionTable.toList = pre ++ x :: suf) (hpass : ∀ z ∈ pre, z.catchType ≠ 0 ∧ ∃ nm : String, Cond.classLink "NecklaceSistersLaw" z.catchType nm ∈ lw_g ∧ (E, nm) ∈ gNcs) (hx : covers x pc = true) (h0 : x.catchType ≠ 0) (hlink : Cond.classLink "NecklaceSistersLaw" x.catchType E ∈ lw_g) (hcast : Cond.castable E E ∈ gOt) (kk : ∀ q9 : Nat, gW Y X S x.handlerPc L [.ref q9]) : gT Y X E S pc L st := by
  intro H locs ls q9 ce hH hl hce hcv hcl
  have hts := B.2.2.2.2.2.1
  exact vx_catch B.2.2.2.2.1 pre x suf tab (fun z hz => by
    obtain ⟨a, nm, b, d⟩ := hpass z hz
    exact Or.inr ⟨a, nm, hts _ b, B.xs.2.2.2.2.2.2.2 _ d⟩) hx h0 (hts _ hlink) (gOt_at B.xs.2.2.2.2.2.2.1 hcast) hce hcv hcl (kk q9 H locs ls hH hl)
def oI (x : Int) : Int := (iI x).toInt
theorem oI_iI (x : Int) : iI (oI x) = iI x := Int32.ofInt_toInt _
theorem oI_in (x : Int) : rI (oI x) := ⟨Int32.le_toInt _, Int32.toInt_lt _⟩
theorem g_i2lN (B : gB Y X own cc nL ret k) {a : Int} (d : decode cc pc = .ok (.i2l, 1)) (hq : pc + 1 = q) (kk : gW Y X S q L (.long (lI (oI a)) :: st)) : gW Y X S pc L (.int (iI a) :: st) := by
  rw [← oI_iI a]
  exact g_i2l B d hq (oI_in a) kk
end GWR
theorem wl_I : Cond.classLink "NecklaceSistersLaw" 13 "java/lang/IndexOutOfBoundsException" ∈ lw_g := lw_gsub (ws := [Cond.classLink "NecklaceSistersLaw" 13 "java/lang/IndexOutOfBoundsException"]) (by decide +kernel) _ (List.mem_singleton.mpr rfl)
theorem wl_A : Cond.classLink "NecklaceSistersLaw" 20 "java/lang/IllegalArgumentException" ∈ lw_g := lw_gsub (ws := [Cond.classLink "NecklaceSistersLaw" 20 "java/lang/IllegalArgumentException"]) (by decide +kernel) _ (List.mem_singleton.mpr rfl)
theorem wl_S : Cond.classLink "NecklaceSistersLaw" 31 "java/lang/IllegalStateException" ∈ lw_g := lw_gsub (ws := [Cond.classLink "NecklaceSistersLaw" 31 "java/lang/IllegalStateException"]) (by decide +kernel) _ (List.mem_singleton.mpr rfl)
/-- what a call tells: its answer, or what was thrown as a number -/
def tv (c x e1 e2 e3 : Int) : Int := if c = 0 then x else if c = 1 then e1 else if c = 2 then e2 else e3
def yP (c x e1 e2 e3 : Int) (P PX : SS → Prop) : Option Value → SS → Prop := fun v S' => v = some (.int (iI (tv c x e1 e2 e3))) ∧ ((c = 0 ∧ P S') ∨ (c ≠ 0 ∧ PX S'))
theorem tv_0 {c x e1 e2 e3 : Int} (h : c = 0) : tv c x e1 e2 e3 = x := if_pos h
theorem tv_1 {c x e1 e2 e3 : Int} (h : c = 1) : tv c x e1 e2 e3 = e1 := by subst h; rfl
theorem tv_2 {c x e1 e2 e3 : Int} (h : c = 2) : tv c x e1 e2 e3 = e2 := by subst h; rfl
theorem tv_3 {c x e1 e2 e3 : Int} (h : c = 3) : tv c x e1 e2 e3 = e3 := by subst h; rfl
/-! THE LAW'S OWN METHODS: contracts with new cells, counted -/
def xK (X : gX) (c : Nat) : gX := (xP X, xL X, xE X, xR X, xS X, xM X, xArgs X, xBelow X, xMeth X, xC X, c, 6 * c, xQ X)
def gRoomN (k mc : Nat) : Room := { frames := k, cells := mc, slots := 6 * mc, locals := 40 * k }
def gN (Y : gY) (l : Launch) (md : gMd) (mc : Nat) (S : SS) (av : List Value) (Post : Option Value → SS → Prop) : Prop :=
  Met l md.1 (.code md.1 md.2.1 md.2.2.1 md.2.2.2.1 :: lw_g) (gRoomN md.2.2.2.2 mc) (gPc Y S av) (gQc Y Post) mc (6 * mc) (gF Y)
def gNE (Y : gY) (X : gX) (mc : Nat) (Post : Option Value → SS → Prop) : Prop := xQ X = MQ (xBelow X) (gQc Y Post) (xArgs X) (xS X) mc (6 * mc) (gF Y) ∧ mc ≤ (xR X).cells ∧ 6 * mc ≤ (xR X).slots
theorem gN_of {Y : gY} {l : Launch} {md : gMd} {mc : Nat} {S : SS} {av : List Value} {Post : Option Value → SS → Prop} (hy : plainName md.1.cls = true) (hlen : (lg_sl av).length ≤ md.2.2.1)
    (h : ∀ X : gX, xL X = l → gB Y (xK X 0) md.1.cls md.2.1 md.2.2.1 md.2.2.2.1 md.2.2.2.2 → gNE Y X mc Post → gW Y (xK X 0) S 0 (lv_args 0 av) []) : gN Y l md mc S av Post := by
  obtain ⟨y, bytes, nL, ret, k⟩ := md
  dsimp only at hy hlen h
  refine Met.ofW (cc := bytes) (maxL := nL) (ret := ret) hy rfl ?_
  intro p e s m args below meth c s₁ B hml hv
  obtain ⟨rfl, hC, hP⟩ := hv
  have hts := atoms_spec (ws := .code y bytes nL ret :: lw_g) B.pre
  have h1 := h (p, l, e, (headSpec (.code y bytes nL ret :: lw_g) (gRoomN k mc)).room, s, m, av.toArray, below, meth, c, 0, 0, MQ below (gQc Y Post) av.toArray s mc (6 * mc) (gF Y)) rfl
    ⟨B.exec, B.bytes, hml, B.returns, findClass_of_methodNamed B.named, fun w hw => hts w (List.mem_cons_of_mem _ hw), hC, B.notSynchronized, Nat.le_refl _, Nat.le_refl _, Nat.zero_le _, Nat.zero_le _⟩ ⟨rfl, Nat.le_refl _, Nat.le_refl _⟩
  have hl := lv_entry av (n := nL) hlen
  have h2 := h1 s.heap [] _ ⟨hP, Nat.le_refl _, fun _ _ => rfl, fun _ h => by cases h⟩ (by show lv_has _ c.maxLocals _; rw [hml]; exact hl)
  show W p l e _ s m _ below meth c s.heap [] 0 0 _ (entryFrame m av.toArray nL)
  rw [lg_entry_eq]
  exact h2
theorem gN_sw {Y : gY} {l : Launch} {md : gMd} {mc : Nat} {S : SS} {av : List Value} {Post : Option Value → SS → Prop} (h : gN (ySw Y) l md mc (sS S) av Post) : gN Y l md mc S av (fun v S' => Post v (sS S')) := by
  unfold gN at h ⊢
  rw [gPc_sw, gQc_sw] at h
  exact h
theorem gQc_mono {Y : gY} {P1 P2 : Option Value → SS → Prop} (h : ∀ v S', P1 v S' → P2 v S') {a : Array Value} {st t : State} {o : Outcome} (hq : gQc Y P1 a st o t) : gQc Y P2 a st o t := by
  obtain ⟨⟨v, S', e, p, q⟩, r⟩ := hq
  exact ⟨⟨v, S', e, h v S' p, q⟩, r⟩
section GLN
variable {Y : gY} {X : gX} {S : SS} {own : String} {cc : ByteArray} {nL : Nat} {ret : Option FieldType} {k c mc : Nat} {pc q : Nat} {L L' : List (Nat × Value)} {st : List Value} {Post : Option Value → SS → Prop}
theorem gB_K {c d : Nat} (B : gB Y (xK X d) own cc nL ret k) (h1 : c ≤ (xR X).cells) (h2 : 6 * c ≤ (xR X).slots) : gB Y (xK X c) own cc nL ret k := by
  obtain ⟨a1, a2, a3, a4, a5, a6, a7, a8, a9, b1, -, -⟩ := B
  exact ⟨a1, a2, a3, a4, a5, a6, a7, a8, a9, b1, h1, h2⟩
theorem gn_iret (B : gB Y (xK X c) own cc nL (some .int) k) (E : gNE Y X mc Post) (hc : c ≤ mc) (d : decode cc pc = .ok (.ireturn, 1)) {x : Int32} (h : Post (some (.int x)) S) : gW Y (xK X c) S pc L [.int x] := by
  intro H locs ls hH hl
  unfold gU
  rw [show xQ (xK X c) = xQ X from rfl, E.1]
  refine W.widen (k := mc) (n := 6 * mc) hc (Nat.mul_le_mul_left 6 hc) ?_
  exact W.iret B.1 B.2.1 B.2.2.2.1 (g_end hH h) hH.2.2.2 d (hlocks := B.2.2.2.2.2.2.2.1)
theorem gn_zret (B : gB Y (xK X c) own cc nL ret k) (E : gNE Y X mc Post) (hc : c ≤ mc) (d : decode cc pc = .ok (.ireturn, 1)) {ty : FieldType} (hr : ret = some ty) {x : Int32} (hn : narrow ty (.int x) = .int x) (h : Post (some (.int x)) S) : gW Y (xK X c) S pc L [.int x] := by
  intro H locs ls hH hl
  unfold gU
  rw [show xQ (xK X c) = xQ X from rfl, E.1]
  refine W.widen (k := mc) (n := 6 * mc) hc (Nat.mul_le_mul_left 6 hc) ?_
  exact W.zret B.1 B.2.1 (B.2.2.2.1.trans hr) hn (g_end hH h) hH.2.2.2 d (hlocks := B.2.2.2.2.2.2.2.1)
theorem g_finN {a : Array Value} {m1 c2 : Nat} {H : Heap} {locs : List Loc} {ls : Array Slot} {st0 : List Value} (hH : gH Y (xS X) H locs S) (hl : lv_has ls (xC X).maxLocals L) (hcc : c + m1 = c2)
    (hr : va_Run (xP X) (xL X) (xE X) (xR X) (xS X) (xM X) (xArgs X) (xBelow X) (xMeth X) (xC X) H locs c (6 * c) m1 (6 * m1) (F0 (xM X) pc ls st0) st (gQc Y Post a) (gF Y))
    (kk : ∀ (v : Option Value) (S' : SS), Post v S' → gW Y (xK X c2) S' (pc + 3) L (v.toList ++ st)) : gU (xK X c) H locs (F0 (xM X) pc ls st0) := by
  subst hcc
  intro T hT XX
  obtain ⟨v, st₀, t, T', Ls, h0, X', hL, e1, e2, ⟨⟨v', S', hv, hp, hP⟩, hz, hk⟩, stp⟩ := hr T hT XX
  cases hv
  rw [h0] at hz hk
  obtain ⟨q1, q2, q3, q4⟩ := hH
  rw [← Nat.mul_add] at X'
  obtain ⟨t2, a1, b1⟩ := kk v S' hp T'.heap (locs ++ Ls) ls ⟨by rw [e1]; exact hP, by rw [e1]; exact Nat.le_trans q2 hz, fun q hq => by rw [e1, hk q hq]; exact q3 q hq, fun lc hlc => by
      rcases List.mem_append.mp hlc with h | h
      · exact q4 lc h
      · exact hL lc h⟩ hl T' rfl X'
  exact ⟨t2, stp t2 a1, b1⟩
theorem g_callN (B : gB Y (xK X c) own cc nL ret k) {md : gMd} {i np m1 c2 : Nat} {As st0 : List Value} (d : decode cc pc = .ok (.invokestatic i, 3)) (hq : pc + 3 = q) (hM : gN Y (xL X) md m1 S As Post) (hE : gES md np) (hw : Cond.methodLink own i md.1 ∈ lw_g) (hkk : md.2.2.2.2 + 1 ≤ k) (hn : As.length = np) (hst : st0 = As.reverse ++ st) (hrest : (st.map fun v => v.category).sum ≤ 8) (hcc : c + m1 = c2) (h1 : c2 ≤ (xR X).cells) (h2 : 6 * c2 ≤ (xR X).slots) (kk : ∀ (v : Option Value) (S' : SS), Post v S' → gW Y (xK X c2) S' q L (v.toList ++ st)) : gW Y (xK X c) S pc L st0 := by
  subst hq
  intro H locs ls hH hl
  obtain ⟨e2, e3, e5, e6, e7⟩ := hE
  obtain ⟨y, bytes, mL, rt, kc⟩ := md
  dsimp only at e2 e3 e5 e6 e7 hw hkk
  have hG : GoodIn lw_g (va_wsS own i y (Cond.code y bytes mL rt :: lw_g)) := goodIn_app (fun w hw' => by
    simp only [List.mem_cons, List.not_mem_nil, or_false] at hw'
    rcases hw' with rfl | rfl | rfl
    · exact lw_gg _ hw
    · exact lw_gg _ e3
    · exact lw_gg _ e5) (lw_gc e2)
  have hroom : (gRoomN kc m1).frames + 1 ≤ (xR X).frames ∧ 8 + (mL + 11) + (gRoomN kc m1).locals ≤ (xR X).locals := by
    have a : k ≤ (xR X).frames := B.2.2.2.2.2.2.2.2.1
    have b : 40 * k ≤ (xR X).locals := B.2.2.2.2.2.2.2.2.2.1
    show kc + 1 ≤ _ ∧ 8 + (mL + 11) + 40 * kc ≤ _
    omega
  refine g_finN (X := X) hH hl hcc (va_runS (As := As) (rest := st) ⟨B.1, B.2.1, B.2.2.1, B.2.2.2.2.1, B.2.2.2.2.2.1⟩ hM (va_cwS np B.2.2.2.2.2.1 hG rfl rfl rfl e6 hroom) ⟨gPc_blind, gPc_pre B.2.2.2.2.2.2.1 hH⟩ rfl hn (hl.1.trans B.2.2.1) hst (lv_room hrest) d ⟨by rw [hcc]; exact h1, by rw [← Nat.mul_add, hcc]; exact h2⟩) kk
/-- a call of one of the law's wrappers, which catch -/
def gEW (y : MethodName) (bytes : ByteArray) (mL : Nat) (hh : List (Nat × Nat × Nat × Nat)) (np : Nat) : Prop := y.cls = "NecklaceSistersLaw" ∧ Cond.codeWith y bytes mL (some .int) hh ∈ lw_g ∧ Cond.static y ∈ lw_g ∧ (parseMethodDescriptor y.desc).map (fun d => d.parameters.length) = some np ∧ mL + 19 ≤ 40
theorem wl_ini : Cond.initialized "NecklaceSistersLaw" ∈ lw_g := lw_gsub (ws := [Cond.initialized "NecklaceSistersLaw"]) (by decide +kernel) _ (List.mem_singleton.mpr rfl)
theorem g_callW (B : gB Y (xK X c) own cc nL ret k) {y : MethodName} {bytes : ByteArray} {mL c2 : Nat} {hh : List (Nat × Nat × Nat × Nat)} {kc i np : Nat} {As st0 : List Value} (d : decode cc pc = .ok (.invokestatic i, 3)) (hq : pc + 3 = q) (hM : gVH Y (xL X) y bytes mL hh kc S As Post) (hE : gEW y bytes mL hh np) (hw : Cond.methodLink own i y ∈ lw_g) (hkk : kc + 1 ≤ k) (hn : As.length = np) (hst : st0 = As.reverse ++ st) (hrest : (st.map fun v => v.category).sum ≤ 8)
    (hcc : c + 1 = c2) (h1 : c2 ≤ (xR X).cells) (h2 : 6 * c2 ≤ (xR X).slots) (kk : ∀ (v : Option Value) (S' : SS), Post v S' → gW Y (xK X c2) S' q L (v.toList ++ st)) : gW Y (xK X c) S pc L st0 := by
  subst hq
  subst hcc
  intro H locs ls hH hl
  obtain ⟨e1, e2, e3, e4, e5⟩ := hE
  have hG : GoodIn lw_g (va_wsS own i y (Cond.codeWith y bytes mL (some .int) hh :: lw_g)) := goodIn_app (fun w hw' => by
    simp only [List.mem_cons, List.not_mem_nil, or_false] at hw'
    rcases hw' with rfl | rfl | rfl
    · exact lw_gg _ hw
    · exact lw_gg _ e3
    · rw [e1]; exact lw_gg _ wl_ini) (lw_gc e2)
  have hroom : (gRoomX kc).frames + 1 ≤ (xR X).frames ∧ 8 + (mL + 11) + (gRoomX kc).locals ≤ (xR X).locals := by
    have a : k ≤ (xR X).frames := B.2.2.2.2.2.2.2.2.1
    have b : 40 * k ≤ (xR X).locals := B.2.2.2.2.2.2.2.2.2.1
    show kc + 1 ≤ _ ∧ 8 + (mL + 11) + 40 * kc ≤ _
    omega
  have hr := vx_runSX (As := As) (rest := st) (g := F0 (xM X) pc ls st0) (locs := locs) (cells := c) (slots := 6 * c) (meth := xMeth X) (below := xBelow X) (e := xE X) ⟨B.1, B.2.1, B.2.2.1, B.2.2.2.2.1, B.2.2.2.2.2.1⟩ hM (vx_cwSW np B.2.2.2.2.2.1 hG rfl rfl rfl ⟨by rw [e1]; decide, by rw [e1]; decide, e4⟩ hroom) ⟨gPc_blind, gPc_pre B.2.2.2.2.2.2.1 hH⟩ rfl hn (hl.1.trans B.2.2.1) hst (lv_room hrest) d ⟨h1, by omega⟩
  intro T hT XX
  rcases hr T hT XX with ⟨v, st₀, t, T', Ls, h0, X', hL, e1, e2, ⟨⟨v', S', hv, hp, hP⟩, hz, hk⟩, stp⟩ | ⟨q9, st₀, t, T', Ls, E, ce, h0, X', hL, e1, e2, ⟨⟨S', hp, hP⟩, hz, hk⟩, hce, hcv, hcl, stp⟩
  · cases hv
    rw [h0] at hz hk
    obtain ⟨q1, q2, q3, q4⟩ := hH
    obtain ⟨t2, a1, b1⟩ := kk v S' hp T'.heap (locs ++ Ls) ls ⟨by rw [e1]; exact hP, by rw [e1]; exact Nat.le_trans q2 hz, fun q hq => by rw [e1, hk q hq]; exact q3 q hq, fun lc hlc => by
        rcases List.mem_append.mp hlc with h | h
        · exact q4 lc h
        · exact hL lc h⟩ hl T' rfl X'
    exact ⟨t2, stp t2 a1, b1⟩
  · exact hp.elim
end GLN
