/-! THE LAW'S SCRIPT -/
def xAt (X : gX) (c n : Nat) : gX := (xP X, xL X, xE X, xR X, xS X, xM X, xArgs X, xBelow X, xMeth X, xC X, c, n, xQ X)
def sI (xs : Nat → Int32) (a : Int) : Int := (xs a.toNat).toInt
theorem sI_in (xs : Nat → Int32) (a : Int) : rI (sI xs a) := ⟨Int32.le_toInt _, Int32.toInt_lt _⟩
theorem sI_iI (xs : Nat → Int32) (a : Int) : iI (sI xs a) = xs a.toNat := Int32.ofInt_toInt _
/-- the script at the address b, N ints -/
def gSc (Y : gY) (b N : Nat) (xs : Nat → Int32) (s : State) : Prop := va_X b N xs s s.heap ∧ b < s.heap.size ∧ b < yB Y ∧ N ≤ 2048
def gNs (Y : gY) (l : Launch) (md : gMd) (b N : Nat) (xs : Nat → Int32) (S : SS) (av : List Value) (Post : Option Value → SS → Prop) : Prop :=
  Met l md.1 (.code md.1 md.2.1 md.2.2.1 md.2.2.2.1 :: lw_g) (gRoomN md.2.2.2.2 0) (fun v U => gPc Y S av v U ∧ gSc Y b N xs U) (gQc Y Post) 0 (6 * 0) (gF Y)
theorem gNs_of {Y : gY} {l : Launch} {md : gMd} {b N : Nat} {xs : Nat → Int32} {S : SS} {av : List Value} {Post : Option Value → SS → Prop} (hy : plainName md.1.cls = true) (hlen : (lg_sl av).length ≤ md.2.2.1)
    (h : ∀ X : gX, xL X = l → gB Y (xK X 0) md.1.cls md.2.1 md.2.2.1 md.2.2.2.1 md.2.2.2.2 → gNE Y X 0 Post → gSc Y b N xs (xS X) → gW Y (xK X 0) S 0 (lv_args 0 av) []) : gNs Y l md b N xs S av Post := by
  obtain ⟨y, bytes, nL, ret, k⟩ := md
  dsimp only at hy hlen h
  refine Met.ofW (cc := bytes) (maxL := nL) (ret := ret) hy rfl ?_
  intro p e s m args below meth c s₁ B hml hv
  obtain ⟨⟨rfl, hC, hP⟩, hsc⟩ := hv
  have hts := atoms_spec (ws := .code y bytes nL ret :: lw_g) B.pre
  have h1 := h (p, l, e, (headSpec (.code y bytes nL ret :: lw_g) (gRoomN k 0)).room, s, m, av.toArray, below, meth, c, 0, 0, MQ below (gQc Y Post) av.toArray s 0 (6 * 0) (gF Y)) rfl
    ⟨B.exec, B.bytes, hml, B.returns, findClass_of_methodNamed B.named, fun w hw => hts w (List.mem_cons_of_mem _ hw), hC, B.notSynchronized, Nat.le_refl _, Nat.le_refl _, Nat.zero_le _, Nat.zero_le _⟩ ⟨rfl, Nat.le_refl _, Nat.le_refl _⟩ hsc
  have hl := lv_entry av (n := nL) hlen
  have h2 := h1 s.heap [] _ ⟨hP, Nat.le_refl _, fun _ _ => rfl, fun _ h => by cases h⟩ (by show lv_has _ c.maxLocals _; rw [hml]; exact hl)
  show W p l e _ s m _ below meth c s.heap [] 0 0 _ (entryFrame m av.toArray nL)
  rw [lg_entry_eq]
  exact h2
section GSC
variable {Y : gY} {X : gX} {S : SS} {own : String} {cc : ByteArray} {nL : Nat} {ret : Option FieldType} {k c : Nat} {pc q : Nat} {L L' : List (Nat × Value)} {st : List Value} {Post : Option Value → SS → Prop}
theorem g_sld (B : gB Y X own cc nL ret k) {b N : Nat} {xs : Nat → Int32} (hX : gSc Y b N xs (xS X)) {a : Int} (d : decode cc pc = .ok (.iaload, 1)) (hq : pc + 1 = q) (h0 : 0 ≤ a) (h1 : a < N) (kk : gW Y X S q L (.int (iI (sI xs a)) :: st)) : gW Y X S pc L (.int (iI a) :: .ref b :: st) := by
  subst hq
  obtain ⟨x1, x2, x3, x4⟩ := hX
  intro H locs ls hH hl
  obtain ⟨hin, hc, hn⟩ := g_in h0 h1 (show N < 2147483648 by omega)
  refine va_sld (A := gF Y) B.1 B.2.1 x1 x2 (Nat.not_le.mpr x3) (gSv hH) hin d ?_
  rw [hc, ← sI_iI xs a]
  exact kk H locs ls hH hl
theorem g_slen (B : gB Y X own cc nL ret k) {b N : Nat} {xs : Nat → Int32} (hX : gSc Y b N xs (xS X)) (d : decode cc pc = .ok (.arraylength, 1)) (hq : pc + 1 = q) (kk : gW Y X S q L (.int (iI (N : Int)) :: st)) : gW Y X S pc L (.ref b :: st) := by
  subst hq
  obtain ⟨x1, x2, x3, x4⟩ := hX
  intro H locs ls hH hl
  refine va_slen (A := gF Y) B.1 B.2.1 x1 x2 (Nat.not_le.mpr x3) (gSv hH) d ?_
  have e : Int32.ofNat N = iI (N : Int) := (iI_nat N).symm
  rw [e]
  exact kk H locs ls hH hl
theorem gSc_at {s U : State} {H : Heap} {locs : List Loc} {b N : Nat} {xs : Nat → Int32} (hsc : gSc Y b N xs s) (hH : gH Y s H locs S) (hU : U.heap = H) (hW : s.WarmedH U.vm) : gSc Y b N xs U := by
  obtain ⟨x1, x2, x3, x4⟩ := hsc
  refine ⟨va_X.moved hW.alike (va_X.kept x1 ?_), ?_, x3, x4⟩
  · rw [hU]; exact hH.2.2.1 b x3
  · rw [hU]; exact Nat.lt_of_lt_of_le x2 hH.2.1
/-- a call of cell, which reads the script -/
theorem g_callC (B : gB Y (xK X c) own cc nL ret k) {md : gMd} {i np b N : Nat} {xs : Nat → Int32} {As st0 : List Value} (hsc : gSc Y b N xs (xS X)) (d : decode cc pc = .ok (.invokestatic i, 3)) (hq : pc + 3 = q) (hM : gNs Y (xL X) md b N xs S As Post) (hE : gES md np) (hw : Cond.methodLink own i md.1 ∈ lw_g) (hkk : md.2.2.2.2 + 1 ≤ k) (hn : As.length = np) (hst : st0 = As.reverse ++ st) (hrest : (st.map fun v => v.category).sum ≤ 8) (h1 : c ≤ (xR X).cells) (h2 : 6 * c ≤ (xR X).slots) (kk : ∀ (v : Option Value) (S' : SS), Post v S' → gW Y (xK X c) S' q L (v.toList ++ st)) : gW Y (xK X c) S pc L st0 := by
  subst hq
  intro H locs ls hH hl
  obtain ⟨e2, e3, e5, e6, e7⟩ := hE
  obtain ⟨y, bytes, mL, rt, kc⟩ := md
  dsimp only at e2 e3 e5 e6 e7 hw hkk
  have hG : GoodIn lw_g (va_wsS own i y (Cond.code y bytes mL rt :: lw_g)) := goodIn_app (fun w hw' => by
    simp only [List.mem_cons, List.not_mem_nil, or_false] at hw'
    rcases hw' with rfl | rfl | rfl
    · exact lw_gg _ hw
    · exact lw_gg _ e3
    · exact lw_gg _ e5) (lw_gc e2)
  have hroom : (gRoomN kc 0).frames + 1 ≤ (xR X).frames ∧ 8 + (mL + 11) + (gRoomN kc 0).locals ≤ (xR X).locals := by
    have a : k ≤ (xR X).frames := B.2.2.2.2.2.2.2.2.1
    have b : 40 * k ≤ (xR X).locals := B.2.2.2.2.2.2.2.2.2.1
    show kc + 1 ≤ _ ∧ 8 + (mL + 11) + 40 * kc ≤ _
    omega
  have hbl : FrameBlind (fun v U => gPc Y S As v U ∧ gSc Y b N xs U) := fun a U g mk h => ⟨gPc_blind a U g mk h.1, va_X.moved (u := U) (U := U.calling g mk a) (Vm.Alike.refl U.vm) h.2.1, h.2.2⟩
  refine g_finN (X := X) (m1 := 0) (c2 := c) hH hl rfl (va_runS (As := As) (rest := st) ⟨B.1, B.2.1, B.2.2.1, B.2.2.2.2.1, B.2.2.2.2.2.1⟩ hM (va_cwS np B.2.2.2.2.2.1 hG rfl rfl rfl e6 hroom) ⟨hbl, fun U hU hW => ⟨gPc_pre B.2.2.2.2.2.2.1 hH U hU hW, gSc_at hsc hH hU hW⟩⟩ rfl hn (hl.1.trans B.2.2.1) hst (lv_room hrest) d ⟨h1, h2⟩) kk
theorem iI_and31 (x : Int32) : ∃ a : Int, x &&& iI 2147483647 = iI a ∧ 0 ≤ a ∧ a < 2147483648 := by
  refine ⟨((x.toBitVec.toNat % 2147483648 : Nat) : Int), ?_, by omega, by omega⟩
  apply Int32.toBitVec_inj.mp
  have h1 : (x &&& iI 2147483647).toBitVec = x.toBitVec &&& 2147483647#32 := rfl
  rw [h1]
  apply BitVec.eq_of_toNat_eq
  rw [BitVec.toNat_and]
  have h2 : (2147483647#32).toNat = 2 ^ 31 - 1 := by decide
  rw [h2, Nat.and_two_pow_sub_one_eq_mod]
  have h3 : (iI ((x.toBitVec.toNat % 2147483648 : Nat) : Int)).toBitVec.toNat = x.toBitVec.toNat % 2147483648 := by
    rw [iI_nat]
    show (BitVec.ofNat 32 _).toNat = _
    rw [BitVec.toNat_ofNat]
    omega
  rw [h3]
theorem iI_andm (x : Int32) (m : Nat) (hm : m ≤ 8) : ∃ a : Int, x &&& iI ((2 ^ m - 1 : Nat) : Int) = iI a ∧ 0 ≤ a ∧ a < 2 ^ m := by
  have hp : 2 ^ m ≤ 2 ^ 8 := Nat.pow_le_pow_right (by decide) hm
  have h0 : 0 < 2 ^ m := Nat.pow_pos (by decide)
  have hlt : x.toBitVec.toNat % 2 ^ m < 2 ^ m := Nat.mod_lt _ h0
  refine ⟨((x.toBitVec.toNat % 2 ^ m : Nat) : Int), ?_, by omega, by have := Int.ofNat_lt.mpr hlt; rwa [Int.natCast_pow] at this⟩
  apply Int32.toBitVec_inj.mp
  rw [iI_nat, iI_nat]
  have h1 : (x &&& nI (2 ^ m - 1)).toBitVec = x.toBitVec &&& BitVec.ofNat 32 (2 ^ m - 1) := rfl
  rw [h1]
  apply BitVec.eq_of_toNat_eq
  rw [BitVec.toNat_and, BitVec.toNat_ofNat, Nat.mod_eq_of_lt (by omega), Nat.and_two_pow_sub_one_eq_mod]
  show _ = (BitVec.ofNat 32 _).toNat
  rw [BitVec.toNat_ofNat]
  exact (Nat.mod_eq_of_lt (Nat.lt_of_lt_of_le hlt (by omega))).symm
end GSC
set_option maxHeartbeats 1000000 in
theorem c_cell {Y : gY} {l : Launch} {S : SS} {b N : Nat} {xs : Nat → Int32} (k : Int) (hk : 0 ≤ k ∧ k ≤ 1000) : gNs Y l mL_cell b N xs S [.ref b, .int (iI k)] (fun v S' => ∃ a : Int, (0 ≤ a ∧ a < 2147483648) ∧ v = some (.int (iI a)) ∧ S' = S) := by
  refine gNs_of (by decide) (Nat.le_of_ble_eq_true rfl) ?_
  intro X hXl B E hsc
  have hN : N ≤ 2048 := hsc.2.2.2
  have hsc0 : gSc Y b N xs (xS (xK X 0)) := hsc
  have fin : ∀ (z : Int), gW Y (xK X 0) S 22 [(0, .ref b), (1, .int (iI k))] [.int (iI z)] := fun z => by
    obtain ⟨a, ha, ha2⟩ := iI_and31 (iI z)
    refine g_ldc (z := 2147483647) (q := 24) B dL_cell_22 rfl w840 (by decide) ?_
    refine g_iand (v := iI a) (q := 25) B dL_cell_24 rfl ha ?_
    exact gn_iret B E (Nat.le_refl _) dL_cell_25 ⟨a, ha2, rfl, rfl⟩
  show gW Y (xK X 0) S 0 [(0, .ref b), (1, .int (iI k))] []
  refine g_iload_n (q := 1) B dL_cell_0 rfl 1 rfl ?_
  refine g_aload_n (q := 2) B dL_cell_1 rfl 0 rfl ?_
  refine g_slen (q := 3) B hsc0 dL_cell_2 rfl ?_
  refine g_icmp_ge (t := 12) (q := 6) B dL_cell_3 (by decide) rfl ⟨by omega, by omega⟩ ⟨by omega, by omega⟩ (fun cq => ?_) (fun cq => ?_)
  · refine g_ldc (z := 15519847) (q := 14) B dL_cell_12 rfl w839 (by decide) ?_
    refine g_iload_n (q := 15) B dL_cell_14 rfl 1 rfl ?_
    refine g_iconst (q := 16) B dL_cell_15 rfl ?_
    refine g_iadd (q := 17) B dL_cell_16 rfl ?_
    refine g_imul (q := 18) B dL_cell_17 rfl ?_
    refine g_sipush (q := 21) B dL_cell_18 rfl (by decide) ?_
    refine g_iadd (q := 22) B dL_cell_21 rfl ?_
    exact fin _
  · refine g_aload_n (q := 7) B dL_cell_6 rfl 0 rfl ?_
    refine g_iload_n (q := 8) B dL_cell_7 rfl 1 rfl ?_
    refine g_sld (q := 9) B hsc0 dL_cell_8 rfl (by omega) (by omega) ?_
    refine g_goto (q := 22) B dL_cell_9 (by decide) ?_
    exact fin _
