section GC
variable {Y : gY} {X : gX} {S : SS} {own : String} {cc : ByteArray} {nL : Nat} {ret : Option FieldType} {k : Nat} {pc q : Nat} {L L' : List (Nat × Value)} {st : List Value}
theorem gPc_blind {S : SS} {av : List Value} : FrameBlind (gPc Y S av) := fun _ U _ _ h => ⟨h.1, gC.warm (State.WarmedH.refl U) (Nat.le_refl _) (fun _ _ => rfl) h.2.1, h.2.2⟩
theorem gPc_pre {s : State} {H : Heap} {locs : List Loc} {av : List Value} (hC : gC Y s) (hH : gH Y s H locs S) : ∀ U : State, U.heap = H → s.WarmedH U.vm → gPc Y S av av.toArray U := fun U hU hW => ⟨rfl, gC.warm hW (by rw [hU]; exact hH.2.1) (fun q hq => by rw [hU]; exact hH.2.2.1 q hq) hC, by rw [hU]; exact hH.1⟩
theorem g_fin {Post : Option Value → SS → Prop} {H : Heap} {locs : List Loc} {ls : Array Slot} {st0 : List Value} {a : Array Value} (hH : gH Y (xS X) H locs S) (hl : lv_has ls (xC X).maxLocals L)
    (hr : va_Run (xP X) (xL X) (xE X) (xR X) (xS X) (xM X) (xArgs X) (xBelow X) (xMeth X) (xC X) H locs (xCells X) (xSlots X) 0 0 (F0 (xM X) pc ls st0) st (gQc Y Post a) (gF Y))
    (kk : ∀ (v : Option Value) (S' : SS), Post v S' → gW Y X S' (pc + 3) L (v.toList ++ st)) : gU X H locs (F0 (xM X) pc ls st0) := by
  intro T hT XX
  obtain ⟨v, st₀, t, T', Ls, h0, X', hL, e1, e2, ⟨⟨v', S', hv, hp, hP⟩, hz, hk⟩, stp⟩ := hr T hT XX
  cases hv
  rw [h0] at hz hk
  obtain ⟨q1, q2, q3, q4⟩ := hH
  obtain ⟨t2, a1, b1⟩ := kk v S' hp T'.heap (locs ++ Ls) ls ⟨by rw [e1]; exact hP, by rw [e1]; exact Nat.le_trans q2 hz, fun q hq => by rw [e1, hk q hq]; exact q3 q hq, fun lc hlc => by
      rcases List.mem_append.mp hlc with h | h
      · exact q4 lc h
      · exact hL lc h⟩ hl T' rfl X'
  exact ⟨t2, stp t2 a1, b1⟩
/-- what a call of the method md wants of the tables, as an instance's of the class C -/
def gEV (md : gMd) (C : String) (np : Nat) : Prop := md.1.cls = C ∧ Cond.code md.1 md.2.1 md.2.2.1 md.2.2.2.1 ∈ lw_g ∧ Cond.instanceMethod md.1 ∈ lw_g ∧ Cond.selects C md.1 md.1 ∈ lw_g ∧ Cond.initialized C ∈ lw_g ∧ (md.1.cls ≠ "java/lang/invoke/MethodHandle" ∧ md.1.cls ≠ "java/lang/invoke/VarHandle" ∧ (parseMethodDescriptor md.1.desc).map (fun d => d.parameters.length) = some np) ∧ md.2.2.1 + 19 ≤ 40
def gES (md : gMd) (np : Nat) : Prop := Cond.code md.1 md.2.1 md.2.2.1 md.2.2.2.1 ∈ lw_g ∧ Cond.static md.1 ∈ lw_g ∧ Cond.initialized md.1.cls ∈ lw_g ∧ (md.1.cls ≠ "java/lang/invoke/MethodHandle" ∧ md.1.cls ≠ "java/lang/invoke/VarHandle" ∧ (parseMethodDescriptor md.1.desc).map (fun d => d.parameters.length) = some np) ∧ md.2.2.1 + 19 ≤ 40
theorem g_room {R : Room} {k kc nL : Nat} (h1 : k ≤ R.frames) (h2 : 40 * k ≤ R.locals) (h3 : kc + 1 ≤ k) (h4 : nL + 19 ≤ 40) : (gRoom kc).frames + 1 ≤ R.frames ∧ 8 + (nL + 11) + (gRoom kc).locals ≤ R.locals := by
  show kc + 1 ≤ R.frames ∧ 8 + (nL + 11) + 40 * kc ≤ R.locals
  omega
theorem g_callV (B : gB Y X own cc nL ret k) {md : gMd} {n i ci np : Nat} {As st0 : List Value} {Post : Option Value → SS → Prop} {C : String} {T : u_T} {N : Nat} {ty : Nat → FieldType} {fs : List Value} (d : decode cc pc = .ok (.invokevirtual i, 3)) (hq : pc + 3 = q) (hM : gM Y (xL X) md S (.ref (yA Y n) :: As) Post) (hE : gEV md C np) (hw : Cond.methodLink own i md.1 ∈ lw_g) (hkk : md.2.2.2.2 + 1 ≤ k) {g : Int → Int} (hg : S n = g) (he : cw Y n g = some (.inr (ci, fs))) (hc : gCls ci C T N ty) (hn : As.length = np) (hst : st0 = As.reverse ++ .ref (yA Y n) :: st) (hrest : (st.map fun v => v.category).sum ≤ 8) (kk : ∀ (v : Option Value) (S' : SS), Post v S' → gW Y X S' q L (v.toList ++ st)) : gW Y X S pc L st0 := by
  subst hq
  intro H locs ls hH hl
  have hP : va_P (yD Y) vwCl [(yA Y n, .inr (ci, fs))] H := fun j q0 hj => by
    cases j with
    | zero => cases hj; exact hH.1 n _ (by rw [hg]; exact he)
    | succ j => simp at hj
  obtain ⟨e1, e2, e3, e4, e5, e6, e7⟩ := hE
  obtain ⟨y, bytes, mL, rt, kc⟩ := md
  dsimp only at e1 e2 e3 e4 e5 e6 e7 hw hkk
  have hG : GoodIn lw_g (wsV own i C y (Cond.code y bytes mL rt :: lw_g)) := goodIn_app (fun w hw' => by
    simp only [List.mem_cons, List.not_mem_nil, or_false] at hw'
    rcases hw' with rfl | rfl | rfl | rfl
    · exact lw_gg _ hw
    · exact lw_gg _ e3
    · exact lw_gg _ e4
    · exact lw_gg _ e5) (lw_gc e2)
  refine g_fin hH hl (va_runV (As := As) (rest := st) ⟨B.1, B.2.1, B.2.2.1, B.2.2.2.2.1, B.2.2.2.2.2.1⟩ hM (cwV np B.2.2.2.2.2.1 hG rfl rfl rfl ⟨e1, e6⟩ (g_room B.2.2.2.2.2.2.2.2.1 B.2.2.2.2.2.2.2.2.2.1 hkk e7)) ⟨gPc_blind, va_recv B.2.2.2.2.2.2.1.2.1 hP (ci := ci) (q0 := 0) hc.1 rfl, gPc_pre B.2.2.2.2.2.2.1 hH⟩ rfl hn (hl.1.trans B.2.2.1) hst (lv_room hrest) d ⟨B.2.2.2.2.2.2.2.2.2.2.1, B.2.2.2.2.2.2.2.2.2.2.2⟩) kk
theorem g_callS (B : gB Y X own cc nL ret k) {md : gMd} {i np : Nat} {As st0 : List Value} {Post : Option Value → SS → Prop} (d : decode cc pc = .ok (.invokestatic i, 3)) (hq : pc + 3 = q) (hM : gM Y (xL X) md S As Post) (hE : gES md np) (hw : Cond.methodLink own i md.1 ∈ lw_g) (hkk : md.2.2.2.2 + 1 ≤ k) (hn : As.length = np) (hst : st0 = As.reverse ++ st) (hrest : (st.map fun v => v.category).sum ≤ 8) (kk : ∀ (v : Option Value) (S' : SS), Post v S' → gW Y X S' q L (v.toList ++ st)) : gW Y X S pc L st0 := by
  subst hq
  intro H locs ls hH hl
  obtain ⟨e2, e3, e5, e6, e7⟩ := hE
  obtain ⟨y, bytes, mL, rt, kc⟩ := md
  dsimp only at e2 e3 e5 e6 e7 hw hkk
  have hG : GoodIn lw_g (va_wsS own i y (Cond.code y bytes mL rt :: lw_g)) := goodIn_app (fun w hw' => by
    simp only [List.mem_cons, List.not_mem_nil, or_false] at hw'
    rcases hw' with rfl | rfl | rfl
    · exact lw_gg _ hw
    · exact lw_gg _ e3
    · exact lw_gg _ e5) (lw_gc e2)
  refine g_fin hH hl (va_runS (As := As) (rest := st) ⟨B.1, B.2.1, B.2.2.1, B.2.2.2.2.1, B.2.2.2.2.2.1⟩ hM (va_cwS np B.2.2.2.2.2.1 hG rfl rfl rfl e6 (g_room B.2.2.2.2.2.2.2.2.1 B.2.2.2.2.2.2.2.2.2.1 hkk e7)) ⟨gPc_blind, gPc_pre B.2.2.2.2.2.2.1 hH⟩ rfl hn (hl.1.trans B.2.2.1) hst (lv_room hrest) d ⟨B.2.2.2.2.2.2.2.2.2.2.1, B.2.2.2.2.2.2.2.2.2.2.2⟩) kk
theorem g_callSN (B : gB Y X own cc nL ret k) {md : gMd} {i np : Nat} {host : String} {As st0 : List Value} {Post : Option Value → SS → Prop} (d : decode cc pc = .ok (.invokestatic i, 3)) (hq : pc + 3 = q) (hM : gM Y (xL X) md S As Post) (hE : gES md np) (hw : Cond.methodLinkNest own i md.1 host ∈ lw_nest) (hkk : md.2.2.2.2 + 1 ≤ k) (hn : As.length = np) (hst : st0 = As.reverse ++ st) (hrest : (st.map fun v => v.category).sum ≤ 8) (kk : ∀ (v : Option Value) (S' : SS), Post v S' → gW Y X S' q L (v.toList ++ st)) : gW Y X S pc L st0 := by
  subst hq
  intro H locs ls hH hl
  obtain ⟨e2, e3, e5, e6, e7⟩ := hE
  obtain ⟨y, bytes, mL, rt, kc⟩ := md
  dsimp only at e2 e3 e5 e6 e7 hw hkk
  have hts := B.2.2.2.2.2.1
  refine g_fin hH hl (va_runSN (As := As) (rest := st) ⟨B.1, B.2.1, B.2.2.1, B.2.2.2.2.1, B.2.2.2.2.2.1⟩ hM ⟨va_cnB np hts (lw_gc e2) rfl rfl rfl (B.2.2.2.2.2.2.1.2.2.1 _ hw) (hts _ e5) e6 (g_room B.2.2.2.2.2.2.2.2.1 B.2.2.2.2.2.2.2.2.2.1 hkk e7), hts _ e3, trivial⟩ ⟨gPc_blind, gPc_pre B.2.2.2.2.2.2.1 hH⟩ rfl hn (hl.1.trans B.2.2.1) hst (lv_room hrest) d ⟨B.2.2.2.2.2.2.2.2.2.2.1, B.2.2.2.2.2.2.2.2.2.2.2⟩) kk
variable {Post : Option Value → SS → Prop}
theorem g_end {v : Option Value} {H : Heap} {locs : List Loc} (hH : gH Y (xS X) H locs S) (h : Post v S) : ∀ t : State, t.heap = H → (xS X).WarmedH t.vm → gQc Y Post (xArgs X) (xS X) (.returned v) t := fun t ht _ => ⟨⟨v, S, rfl, h, by rw [ht]; exact hH.1⟩, by rw [ht]; exact hH.2.1, fun q hq => by rw [ht]; exact hH.2.2.1 q hq⟩
theorem g_iret (B : gB Y X own cc nL (some .int) k) (E : gE Y X Post) (d : decode cc pc = .ok (.ireturn, 1)) {x : Int32} (h : Post (some (.int x)) S) : gW Y X S pc L [.int x] := by
  intro H locs ls hH hl
  unfold gU
  rw [show xQ X = _ from E]
  exact W.iret B.1 B.2.1 B.2.2.2.1 (g_end hH h) hH.2.2.2 d (hlocks := B.2.2.2.2.2.2.2.1)
theorem g_zret (B : gB Y X own cc nL ret k) (E : gE Y X Post) (d : decode cc pc = .ok (.ireturn, 1)) {ty : FieldType} (hr : ret = some ty) {x : Int32} (hn : narrow ty (.int x) = .int x) (h : Post (some (.int x)) S) : gW Y X S pc L [.int x] := by
  intro H locs ls hH hl
  unfold gU
  rw [show xQ X = _ from E]
  exact W.zret B.1 B.2.1 (B.2.2.2.1.trans hr) hn (g_end hH h) hH.2.2.2 d (hlocks := B.2.2.2.2.2.2.2.1)
theorem g_lret (B : gB Y X own cc nL (some .long) k) (E : gE Y X Post) (d : decode cc pc = .ok (.lreturn, 1)) {x : Int64} (h : Post (some (.long x)) S) : gW Y X S pc L [.long x] := by
  intro H locs ls hH hl
  unfold gU
  rw [show xQ X = _ from E]
  exact W.lret B.1 B.2.1 B.2.2.2.1 (g_end hH h) hH.2.2.2 d (hlocks := B.2.2.2.2.2.2.2.1)
theorem g_vret (B : gB Y X own cc nL none k) (E : gE Y X Post) (d : decode cc pc = .ok (.return_, 1)) (h : Post none S) : gW Y X S pc L [] := by
  intro H locs ls hH hl
  unfold gU
  rw [show xQ X = _ from E]
  exact W.vret B.1 B.2.1 B.2.2.2.1 (g_end hH h) hH.2.2.2 d (hlocks := B.2.2.2.2.2.2.2.1)
theorem g_aret (B : gB Y X own cc nL ret k) (E : gE Y X Post) (d : decode cc pc = .ok (.areturn, 1)) {C : String} (hr : ret = some (.object C)) {v : Value} (hv : v = .null ∨ ∃ a, v = .ref a) (h : Post (some v) S) : gW Y X S pc L [v] := by
  intro H locs ls hH hl
  unfold gU
  rw [show xQ X = _ from E]
  exact W.aret B.1 B.2.1 (B.2.2.2.1.trans hr) (Or.inl ⟨C, rfl⟩) hv (g_end hH h) hH.2.2.2 d (hlocks := B.2.2.2.2.2.2.2.1)
/-- Math.min, Math.abs -/
theorem g_min (B : gB Y X own cc nL ret k) {i : Nat} {a b : Int} (d : decode cc pc = .ok (.invokestatic i, 3)) (hq : pc + 3 = q) (h1 : Cond.methodLink own i Lib.Math.min.name ∈ lw_g) (h2 : Cond.static Lib.Math.min.name ∈ lw_g) (h3 : Cond.initialized "java/lang/Math" ∈ lw_g) (h4 : Cond.code Lib.Math.min.name Lib.Math.min.code 2 (some .int) ∈ lw_g) (hk : 1 ≤ k) (hrest : (st.map fun v => v.category).sum ≤ 8) (ha : rI a) (hb : rI b) (kk : gW Y X S q L (.int (iI (if b < a then b else a)) :: st)) : gW Y X S pc L (.int (iI b) :: .int (iI a) :: st) := by
  subst hq
  intro H locs ls hH hl
  have hts := B.2.2.2.2.2.1
  refine va_mmin B.1 B.2.1 hl.1.symm B.2.2.2.2.1 (hts _ h1) (hts _ h2) (hts _ h3) (hts _ h4) (Nat.le_trans hk B.2.2.2.2.2.2.2.2.1) (by have := B.2.2.2.2.2.2.2.2.2.1; omega) B.2.2.2.2.2.2.2.2.2.2.1 B.2.2.2.2.2.2.2.2.2.2.2 d ?_
  have e : (if iI b < iI a then iI b else iI a) = iI (if b < a then b else a) := by
    by_cases h : b < a
    · rw [if_pos h, if_pos ((iI_lt hb ha).mpr h)]
    · rw [if_neg h, if_neg (fun z => h ((iI_lt hb ha).mp z))]
  rw [e]
  exact kk H locs ls hH hl
theorem g_abs (B : gB Y X own cc nL ret k) {i : Nat} {a : Int} (d : decode cc pc = .ok (.invokestatic i, 3)) (hq : pc + 3 = q) (h1 : Cond.methodLink own i Lib.Math.abs.name ∈ lw_g) (h2 : Cond.static Lib.Math.abs.name ∈ lw_g) (h3 : Cond.initialized "java/lang/Math" ∈ lw_g) (h4 : Cond.code Lib.Math.abs.name Lib.Math.abs.code 1 (some .int) ∈ lw_g) (hk : 1 ≤ k) (hrest : (st.map fun v => v.category).sum ≤ 8) (ha : rI a) (kk : gW Y X S q L (.int (iI (if 0 ≤ a then a else -a)) :: st)) : gW Y X S pc L (.int (iI a) :: st) := by
  subst hq
  intro H locs ls hH hl
  have hts := B.2.2.2.2.2.1
  refine va_mabs B.1 B.2.1 hl.1.symm B.2.2.2.2.1 (hts _ h1) (hts _ h2) (hts _ h3) (hts _ h4) (Nat.le_trans hk B.2.2.2.2.2.2.2.2.1) (by have := B.2.2.2.2.2.2.2.2.2.1; omega) B.2.2.2.2.2.2.2.2.2.2.1 B.2.2.2.2.2.2.2.2.2.2.2 d ?_
  have e : (if 0 ≤ iI a then iI a else 0 - iI a) = iI (if 0 ≤ a then a else -a) := by
    have e0 : (0 : Int32) = iI 0 := rfl
    rw [e0]
    by_cases h : 0 ≤ a
    · rw [if_pos h, if_pos ((iI_le rI_0 ha).mpr h)]
    · rw [if_neg h, if_neg (fun z => h ((iI_le rI_0 ha).mp z)), iI_sub, Int.zero_sub]
  rw [e]
  exact kk H locs ls hH hl
end GC
/-- ends: a value, and what is said of the new state; or no value -/
def pV (x : Value) (P : SS → Prop) : Option Value → SS → Prop := fun v S' => v = some x ∧ P S'
def p0 (P : SS → Prop) : Option Value → SS → Prop := fun v S' => v = none ∧ P S'
section GC2
variable {Y : gY} {X : gX} {S : SS} {own : String} {cc : ByteArray} {nL : Nat} {ret : Option FieldType} {k : Nat} {pc q : Nat} {L L' : List (Nat × Value)} {st : List Value}
theorem g_kV {x : Value} {P : SS → Prop} (kk : ∀ S' : SS, P S' → gW Y X S' q L (x :: st)) : ∀ (v : Option Value) (S' : SS), pV x P v S' → gW Y X S' q L (v.toList ++ st) := fun _ S' h => h.1 ▸ kk S' h.2
theorem g_k0 {P : SS → Prop} (kk : ∀ S' : SS, P S' → gW Y X S' q L st) : ∀ (v : Option Value) (S' : SS), p0 P v S' → gW Y X S' q L (v.toList ++ st) := fun _ S' h => h.1 ▸ kk S' h.2
theorem g_kE {x : Value} {S1 : SS} (kk : gW Y X S1 q L (x :: st)) : ∀ (v : Option Value) (S' : SS), pV x (fun S' => S' = S1) v S' → gW Y X S' q L (v.toList ++ st) := fun _ _ h => h.1 ▸ h.2 ▸ kk
theorem g_0E {S1 : SS} (kk : gW Y X S1 q L st) : ∀ (v : Option Value) (S' : SS), p0 (fun S' => S' = S1) v S' → gW Y X S' q L (v.toList ++ st) := fun _ _ h => h.1 ▸ h.2 ▸ kk
end GC2
theorem nz_b (P : Prop) [Decidable P] : narrow .boolean (.int (bI P)) = .int (bI P) := by unfold bI; split <;> decide
theorem nz_c {a : Int} (h0 : 0 ≤ a) (h1 : a < 65536) : narrow .char (.int (iI a)) = .int (iI a) := by
  obtain ⟨n, rfl⟩ := Int.eq_ofNat_of_zero_le h0
  rw [iI_nat]
  exact (pk_charN (by omega)).1
theorem zt {P : Prop} [Decidable P] (h : P) : some (Value.int (iI 1)) = some (.int (bI P)) := by rw [bI_t h]; rfl
theorem zf {P : Prop} [Decidable P] (h : ¬ P) : some (Value.int (iI 0)) = some (.int (bI P)) := by rw [bI_f h]; rfl
theorem bI_iI (P : Prop) [Decidable P] : bI P = iI (if P then 1 else 0) := by unfold bI; split <;> rfl
