/-! THE LAW'S WALK: its script, its calls -/
def xAt (X : gX) (c n : Nat) : gX := (xP X, xL X, xE X, xR X, xS X, xM X, xArgs X, xBelow X, xMeth X, xC X, c, n, xQ X)
def sI (xs : Nat → Int32) (a : Int) : Int := (xs a.toNat).toInt
theorem sI_in (xs : Nat → Int32) (a : Int) : rI (sI xs a) := ⟨Int32.le_toInt _, Int32.toInt_lt _⟩
theorem sI_iI (xs : Nat → Int32) (a : Int) : iI (sI xs a) = xs a.toNat := Int32.ofInt_toInt _
/-- the script at the address b, L ints -/
def gSc (Y : gY) (X : gX) (b L : Nat) (xs : Nat → Int32) : Prop := va_X b L xs (xS X) (xS X).heap ∧ b < (xS X).heap.size ∧ b < yB Y ∧ L ≤ 2048
section GLR
variable {Y : gY} {X : gX} {S : SS} {own : String} {cc : ByteArray} {nL : Nat} {ret : Option FieldType} {k : Nat} {pc q : Nat} {L L' : List (Nat × Value)} {st : List Value} {Post : Option Value → SS → Prop}
theorem g_sld (B : gB Y X own cc nL ret k) {b N : Nat} {xs : Nat → Int32} (hX : gSc Y X b N xs) {a : Int} (d : decode cc pc = .ok (.iaload, 1)) (hq : pc + 1 = q) (h0 : 0 ≤ a) (h1 : a < N) (kk : gW Y X S q L (.int (iI (sI xs a)) :: st)) : gW Y X S pc L (.int (iI a) :: .ref b :: st) := by
  subst hq
  obtain ⟨x1, x2, x3, x4⟩ := hX
  intro H locs ls hH hl
  obtain ⟨hin, hc, hn⟩ := g_in h0 h1 (show N < 2147483648 by omega)
  refine va_sld (A := gF Y) B.1 B.2.1 x1 x2 (Nat.not_le.mpr x3) (gSv hH) hin d ?_
  rw [hc, ← sI_iI xs a]
  exact kk H locs ls hH hl
theorem g_slen (B : gB Y X own cc nL ret k) {b N : Nat} {xs : Nat → Int32} (hX : gSc Y X b N xs) (d : decode cc pc = .ok (.arraylength, 1)) (hq : pc + 1 = q) (kk : gW Y X S q L (.int (iI (N : Int)) :: st)) : gW Y X S pc L (.ref b :: st) := by
  subst hq
  obtain ⟨x1, x2, x3, x4⟩ := hX
  intro H locs ls hH hl
  refine va_slen (A := gF Y) B.1 B.2.1 x1 x2 (Nat.not_le.mpr x3) (gSv hH) d ?_
  have e : Int32.ofNat N = iI (N : Int) := (iI_nat N).symm
  rw [e]
  exact kk H locs ls hH hl
/-- a call of one of the law's own methods -/
def gEW (y : MethodName) (bytes : ByteArray) (mL : Nat) (hh : List (Nat × Nat × Nat × Nat)) (np : Nat) : Prop := y.cls = "NecklaceSistersLaw" ∧ Cond.codeWith y bytes mL (some .int) hh ∈ lw_g ∧ Cond.static y ∈ lw_g ∧ (parseMethodDescriptor y.desc).map (fun d => d.parameters.length) = some np ∧ mL + 19 ≤ 40
theorem wl_ini : Cond.initialized "NecklaceSistersLaw" ∈ lw_g := lw_gsub (ws := [Cond.initialized "NecklaceSistersLaw"]) (by decide +kernel) _ (List.mem_singleton.mpr rfl)
theorem g_callW (B : gB Y X own cc nL ret k) {y : MethodName} {bytes : ByteArray} {mL : Nat} {hh : List (Nat × Nat × Nat × Nat)} {kc i np : Nat} {As st0 : List Value} (d : decode cc pc = .ok (.invokestatic i, 3)) (hM : gVH Y (xL X) y bytes mL hh kc S As Post) (hE : gEW y bytes mL hh np) (hw : Cond.methodLink own i y ∈ lw_g) (hkk : kc + 1 ≤ k) (hn : As.length = np) (hst : st0 = As.reverse ++ st) (hrest : (st.map fun v => v.category).sum ≤ 8)
    (h1 : xCells X + 1 ≤ (xR X).cells) (h2 : xSlots X + 6 ≤ (xR X).slots) (kk : ∀ (v : Option Value) (S' : SS), Post v S' → gW Y (xUp X) S' (pc + 3) L (v.toList ++ st)) : gW Y X S pc L st0 := by
  intro H locs ls hH hl
  obtain ⟨e1, e2, e3, e4, e5⟩ := hE
  have hG : GoodIn lw_g (va_wsS own i y (Cond.codeWith y bytes mL (some .int) hh :: lw_g)) := goodIn_app (fun w hw' => by
    simp only [List.mem_cons, List.not_mem_nil, or_false] at hw'
    rcases hw' with rfl | rfl | rfl
    · exact lw_gg _ hw
    · exact lw_gg _ e3
    · rw [e1]; exact lw_gg _ wl_ini) (lw_gc e2)
  have hroom : (gRoomX kc).frames + 1 ≤ (xR X).frames ∧ 8 + (mL + 11) + (gRoomX kc).locals ≤ (xR X).locals := by
    have a := B.2.2.2.2.2.2.2.2.1
    have b := B.2.2.2.2.2.2.2.2.2.1
    show kc + 1 ≤ _ ∧ 8 + (mL + 11) + 40 * kc ≤ _
    omega
  have hr := vx_runSX (As := As) (rest := st) (g := F0 (xM X) pc ls st0) (locs := locs) (cells := xCells X) (slots := xSlots X) (meth := xMeth X) (below := xBelow X) (e := xE X) ⟨B.1, B.2.1, B.2.2.1, B.2.2.2.2.1, B.2.2.2.2.2.1⟩ hM (vx_cwSW np B.2.2.2.2.2.1 hG rfl rfl rfl ⟨by rw [e1]; decide, by rw [e1]; decide, e4⟩ hroom) ⟨gPc_blind, gPc_pre B.2.2.2.2.2.2.1 hH⟩ rfl hn (hl.1.trans B.2.2.1) hst (lv_room hrest) d ⟨h1, h2⟩
  intro T hT XX
  rcases hr T hT XX with ⟨v, st₀, t, T', Ls, h0, X', hL, e1, e2, ⟨⟨v', S', hv, hp, hP⟩, hz, hk⟩, stp⟩ | ⟨q9, st₀, t, T', Ls, E, ce, h0, X', hL, e1, e2, ⟨⟨S', hp, hP⟩, hz, hk⟩, hce, hcv, hcl, stp⟩
  · cases hv
    rw [h0] at hz hk
    obtain ⟨q1, q2, q3, q4⟩ := hH
    obtain ⟨t2, a1, b1⟩ := kk v S' hp T'.heap (locs ++ Ls) ls ⟨by rw [e1]; exact hP, by rw [e1]; exact Nat.le_trans q2 hz, fun q hq => by rw [e1, hk q hq]; exact q3 q hq, fun lc hlc => by
        rcases List.mem_append.mp hlc with h | h
        · exact q4 lc h
        · exact hL lc h⟩ hl T' rfl X'
    exact ⟨t2, stp t2 a1, b1⟩
  · exact hp.elim
theorem lI_to (V : Int64) : V = lI V.toInt := (Int64.ofInt_toInt V).symm
theorem lI_in (V : Int64) : rL V.toInt := ⟨Int64.le_toInt _, Int64.toInt_lt _⟩
theorem oI_rL (x : Int) : rL (oI x) := ⟨Int.le_trans (by decide) (oI_in x).1, Int.lt_of_lt_of_le (oI_in x).2 (by decide)⟩
theorem iI_and31 (x : Int32) : ∃ a : Int, x &&& iI 31 = iI a ∧ 0 ≤ a ∧ a < 32 := by
  refine ⟨((x.toBitVec.toNat % 32 : Nat) : Int), ?_, by omega, by omega⟩
  apply Int32.toBitVec_inj.mp
  have h1 : (x &&& iI 31).toBitVec = x.toBitVec &&& 31#32 := rfl
  rw [h1]
  apply BitVec.eq_of_toNat_eq
  rw [BitVec.toNat_and]
  have h2 : (31#32).toNat = 2 ^ 5 - 1 := by decide
  rw [h2, Nat.and_two_pow_sub_one_eq_mod]
  have h3 : (iI ((x.toBitVec.toNat % 32 : Nat) : Int)).toBitVec.toNat = x.toBitVec.toNat % 32 := by
    rw [iI_nat]
    show (BitVec.ofNat 32 _).toNat = _
    rw [BitVec.toNat_ofNat]
    omega
  rw [h3]
/-- what a call's end wants: the code is the reference's, and the answers are one -/
theorem stp_q {c : Int} {w : Option Value} {S2 : SS} (h : stp (some (.int (iI c))) w S2) : ∃ c9 x y : Int, iI c = iI c9 ∧ w = some (.int (iI y)) ∧ RR S2 ∧ S2 82 0 = c9 ∧ (0 ≤ c9 ∧ c9 ≤ 3) ∧ (c9 = 0 → S2 91 0 = oI x ∧ y = x) := by
  obtain ⟨c9, x, y, e1, e2, r⟩ := h
  have e3 : Value.int (iI c) = .int (iI c9) := Option.some.inj e1
  exact ⟨c9, x, y, by injection e3, e2, r⟩
end GLR
