/-! METHODS THAT MAY THROW: a contract with two ends; at most one new cell -/
def gRoomX (k : Nat) : Room := { frames := k, cells := 1, slots := 6, locals := 40 * k }
def XCg (Y : gY) (PX : String → SS → Prop) : String → State → State → Prop := fun E st t => (∃ S' : SS, PX E S' ∧ gP Y S' t.heap) ∧ st.heap.size ≤ t.heap.size ∧ ∀ q : Nat, q < yB Y → t.heap[q]? = st.heap[q]?
def gV (Y : gY) (l : Launch) (md : gMd) (S : SS) (av : List Value) (Post : Option Value → SS → Prop) (PX : String → SS → Prop) : Prop :=
  vx_Met l md.1 (.code md.1 md.2.1 md.2.2.1 md.2.2.2.1 :: lw_g) (gRoomX (md.2.2.2.2 + 10)) (gPc Y S av) (gQc Y Post) (XCg Y PX) 1 6 (gF Y)
def gVE (Y : gY) (X : gX) (Post : Option Value → SS → Prop) (PX : String → SS → Prop) : Prop :=
  xQ X = vx_MQ (xBelow X) (gQc Y Post) (XCg Y PX) (xArgs X) (xS X) 1 6 (gF Y) ∧ (∀ x ∈ (xC X).exceptionTable.toList, False) ∧ 1 ≤ (xR X).cells ∧ 6 ≤ (xR X).slots ∧ xCells X = 0 ∧ xSlots X = 0 ∧ (xL X).stackTraces = false
theorem gV_of {Y : gY} {l : Launch} {md : gMd} {S : SS} {av : List Value} {Post : Option Value → SS → Prop} {PX : String → SS → Prop} (hst : l.stackTraces = false) (hy : plainName md.1.cls = true) (hlen : (lg_sl av).length ≤ md.2.2.1)
    (h : ∀ X : gX, xL X = l → gB Y X md.1.cls md.2.1 md.2.2.1 md.2.2.2.1 (md.2.2.2.2 + 10) → gVE Y X Post PX → gW Y X S 0 (lv_args 0 av) []) : gV Y l md S av Post PX := by
  obtain ⟨y, bytes, nL, ret, k⟩ := md
  dsimp only at hy hlen h
  refine vx_ofW (cc := bytes) (maxL := nL) (ret := ret) hy rfl ?_
  intro p e s m args below meth c s₁ B hml hex hv
  obtain ⟨rfl, hC, hP⟩ := hv
  have hts := atoms_spec (ws := .code y bytes nL ret :: lw_g) B.pre
  have h1 := h (p, l, e, (headSpec (.code y bytes nL ret :: lw_g) (gRoomX (k + 10))).room, s, m, av.toArray, below, meth, c, 0, 0, vx_MQ below (gQc Y Post) (XCg Y PX) av.toArray s 1 6 (gF Y)) rfl
    ⟨B.exec, B.bytes, hml, B.returns, findClass_of_methodNamed B.named, fun w hw => hts w (List.mem_cons_of_mem _ hw), hC, B.notSynchronized, Nat.le_refl _, Nat.le_refl _, Nat.zero_le _, Nat.zero_le _⟩ ⟨rfl, hex, Nat.le_refl _, Nat.le_refl _, rfl, rfl, hst⟩
  have hl := lv_entry av (n := nL) hlen
  have h2 := h1 s.heap [] _ ⟨hP, Nat.le_refl _, fun _ _ => rfl, fun _ h => by cases h⟩ (by show lv_has _ c.maxLocals _; rw [hml]; exact hl)
  show W p l e _ s m _ below meth c s.heap [] 0 0 _ (entryFrame m av.toArray nL)
  rw [lg_entry_eq]
  exact h2
def gNames : List String := ["java/lang/RuntimeException", "java/lang/Exception"]
theorem gNames_fit : ∀ n ∈ gNames, Bundle.fit n = true := by decide +kernel
/-- an exception's class: its words among the tables' -/
def gEx (ik ic : Nat) (cls : String) : Prop := Bundle.fit cls = true ∧ Cond.classLink "NecklaceSisters" ik cls ∈ lw_g ∧ Cond.initialized cls ∈ lw_g ∧ (∀ w ∈ vx_atS "NecklaceSisters" ic cls gNames, w ∈ lw_g ∨ w ∈ gOt)
theorem lw_g_ot {w : Cond} (h : w ∈ lw_g) : vx_ot w = true := by
  have h2 := (List.mem_filter.mp h).2
  unfold vx_ot
  rw [h2, Bool.or_true]
theorem lw_osub {ws : List Cond} (h : (ws.all fun w => (decide (w ∈ lw_tbl) && goodWord w) || decide (w ∈ gOt)) = true) : ∀ w ∈ ws, w ∈ lw_g ∨ w ∈ gOt := fun w hw => by
  have h1 := List.all_eq_true.mp h w hw
  simp only [Bool.or_eq_true, Bool.and_eq_true, decide_eq_true_eq] at h1
  rcases h1 with h1 | h1
  · exact Or.inl (lw_gin h1.1 h1.2)
  · exact Or.inr h1
theorem gOt_ot : ∀ w ∈ gOt, vx_ot w = true := by decide +kernel
theorem gOt_at {args : Array Value} {s : State} (h : ∀ w ∈ gOt, w.before #[] s = true) {w : Cond} (hw : w ∈ gOt) : w.before args s = true := gOt_warm (State.WarmedH.refl s) h w hw
theorem gEx_A : gEx 50 54 "java/lang/IllegalArgumentException" := ⟨by decide +kernel, lw_gsub (ws := [Cond.classLink "NecklaceSisters" 50 "java/lang/IllegalArgumentException"]) (by decide +kernel) _ (List.mem_singleton.mpr rfl), lw_gsub (ws := [Cond.initialized "java/lang/IllegalArgumentException"]) (by decide +kernel) _ (List.mem_singleton.mpr rfl), lw_osub (by decide +kernel)⟩
theorem gEx_S : gEx 61 65 "java/lang/IllegalStateException" := ⟨by decide +kernel, lw_gsub (ws := [Cond.classLink "NecklaceSisters" 61 "java/lang/IllegalStateException"]) (by decide +kernel) _ (List.mem_singleton.mpr rfl), lw_gsub (ws := [Cond.initialized "java/lang/IllegalStateException"]) (by decide +kernel) _ (List.mem_singleton.mpr rfl), lw_osub (by decide +kernel)⟩
theorem gEx_I : gEx 127 131 "java/lang/IndexOutOfBoundsException" := ⟨by decide +kernel, lw_gsub (ws := [Cond.classLink "NecklaceSisters" 127 "java/lang/IndexOutOfBoundsException"]) (by decide +kernel) _ (List.mem_singleton.mpr rfl), lw_gsub (ws := [Cond.initialized "java/lang/IndexOutOfBoundsException"]) (by decide +kernel) _ (List.mem_singleton.mpr rfl), lw_osub (by decide +kernel)⟩
section GTH
variable {Y : gY} {X : gX} {S : SS} {own : String} {cc : ByteArray} {nL : Nat} {ret : Option FieldType} {k : Nat} {pc q : Nat} {L L' : List (Nat × Value)} {st : List Value} {Post : Option Value → SS → Prop} {PX : String → SS → Prop}
theorem gx_iret (B : gB Y X own cc nL (some .int) k) (V : gVE Y X Post PX) (d : decode cc pc = .ok (.ireturn, 1)) {x : Int32} (h : Post (some (.int x)) S) : gW Y X S pc L [.int x] := by
  intro H locs ls hH hl
  unfold gU
  rw [V.1]
  refine vx_ret (W.widen (k := 1) (n := 6) (by rw [V.2.2.2.2.1]; exact Nat.zero_le _) (by rw [V.2.2.2.2.2.1]; exact Nat.zero_le _) ?_)
  exact W.iret B.1 B.2.1 B.2.2.2.1 (g_end hH h) hH.2.2.2 d (hlocks := B.2.2.2.2.2.2.2.1)
theorem gx_hx (B : gB Y X own cc nL ret k) {H : Heap} {locs : List Loc} {cls : String} (hH : gH Y (xS X) H locs S) (h : PX cls S) : ∀ t : State, (xS X).vm.Alike t.vm → H.size ≤ t.heap.size → (∀ q : Nat, q < H.size → t.heap[q]? = H[q]?) → XCg Y PX cls (xS X) t := fun t _ hz hk => by
  have hyb : yB Y ≤ (xS X).heap.size := B.2.2.2.2.2.2.1.2.2.2.1
  exact ⟨⟨S, h, fun n e hn => (hH.1 n e hn).kept (hk _ (hH.1 n e hn).lt)⟩, Nat.le_trans hH.2.1 hz, fun q hq => by rw [hk q (Nat.lt_of_lt_of_le hq (Nat.le_trans hyb hH.2.1))]; exact hH.2.2.1 q hq⟩
theorem gx_throw (B : gB Y X "NecklaceSisters" cc nL ret k) (V : gVE Y X Post PX) {ik is ic : Nat} {cls text : String} (G : gEx ik ic cls) (hm : (is, text) ∈ gStrX) (hk : 10 ≤ k)
    (d0 : decode cc pc = .ok (.new ik, 3)) (d3 : decode cc (pc + 3) = .ok (.dup, 1)) (d4 : decode cc (pc + 4) = .ok (.ldc is, 2)) (d6 : decode cc (pc + 6) = .ok (.invokespecial ic, 3)) (d9 : decode cc (pc + 9) = .ok (.athrow, 1)) (h : PX cls S) : gW Y X S pc L [] := by
  intro H locs ls hH hl
  unfold gU
  rw [V.1]
  obtain ⟨hq, hex, hrc, hrs, hc0, hs0, hst⟩ := V
  obtain ⟨sa, hsa⟩ := B.xs.2.2.2.2.1 _ hm
  have hts := B.2.2.2.2.2.1
  obtain ⟨g1, g2, g3, g4⟩ := G
  refine vx_throwS B.1 B.2.1 hst B.2.2.2.2.1 g1 gNames_fit (hts _ g2) (hts _ g3) hsa (fun w hw => (g4 w hw).elim (fun h => hts _ h) (fun h => gOt_at B.xs.2.2.2.2.2.2.1 h)) (fun w hw => ?_) B.xs.1 B.xs.2.1 (gSv hH) hl.1 d0 d3 d4 d6 d9 (fun x hx => (hex x hx).elim) (Nat.lt_of_lt_of_le (by decide) (Nat.le_trans hk B.2.2.2.2.2.2.2.2.1)) ?_ (by rw [hc0]; exact hrc) (by rw [hs0]; exact hrs) B.2.2.2.2.2.2.2.1 (gx_hx B hH h) hH.2.2.2 (by rw [hc0]; decide) (by rw [hs0]; decide)
  · rcases List.mem_cons.mp hw with rfl | hw
    · exact lw_g_ot g2
    · rcases List.mem_cons.mp hw with rfl | hw
      · exact lw_g_ot g3
      · exact (g4 w hw).elim lw_g_ot (gOt_ot w)
  · have := B.2.2.2.2.2.2.2.2.2.1
    show 0 + (13 * (2 + 1) + 43) ≤ _
    omega
theorem gx_throwW (B : gB Y X "NecklaceSisters" cc nL ret k) (V : gVE Y X Post PX) {ik is ic : Nat} {cls text : String} (G : gEx ik ic cls) (hm : (is, text) ∈ gStrX) (hk : 10 ≤ k)
    (d0 : decode cc pc = .ok (.new ik, 3)) (d3 : decode cc (pc + 3) = .ok (.dup, 1)) (d4 : decode cc (pc + 4) = .ok (.ldc_w is, 3)) (d6 : decode cc (pc + 7) = .ok (.invokespecial ic, 3)) (d9 : decode cc (pc + 10) = .ok (.athrow, 1)) (h : PX cls S) : gW Y X S pc L [] := by
  intro H locs ls hH hl
  unfold gU
  rw [V.1]
  obtain ⟨hq, hex, hrc, hrs, hc0, hs0, hst⟩ := V
  obtain ⟨sa, hsa⟩ := B.xs.2.2.2.2.1 _ hm
  have hts := B.2.2.2.2.2.1
  obtain ⟨g1, g2, g3, g4⟩ := G
  refine vx_throwSW B.1 B.2.1 hst B.2.2.2.2.1 g1 gNames_fit (hts _ g2) (hts _ g3) hsa (fun w hw => (g4 w hw).elim (fun h => hts _ h) (fun h => gOt_at B.xs.2.2.2.2.2.2.1 h)) (fun w hw => ?_) B.xs.1 B.xs.2.1 (gSv hH) hl.1 d0 d3 d4 d6 d9 (fun x hx => (hex x hx).elim) (Nat.lt_of_lt_of_le (by decide) (Nat.le_trans hk B.2.2.2.2.2.2.2.2.1)) ?_ (by rw [hc0]; exact hrc) (by rw [hs0]; exact hrs) B.2.2.2.2.2.2.2.1 (gx_hx B hH h) hH.2.2.2 (by rw [hc0]; decide) (by rw [hs0]; decide)
  · rcases List.mem_cons.mp hw with rfl | hw
    · exact lw_g_ot g2
    · rcases List.mem_cons.mp hw with rfl | hw
      · exact lw_g_ot g3
      · exact (g4 w hw).elim lw_g_ot (gOt_ot w)
  · have := B.2.2.2.2.2.2.2.2.2.1
    show 0 + (13 * (2 + 1) + 43) ≤ _
    omega
end GTH
/-- the two ends, by the number of the exception among those that the method lists -/
def xO (c x : Int) (P : SS → Prop) : Option Value → SS → Prop := fun v S' => c = 0 ∧ v = some (.int (iI x)) ∧ P S'
def xE2 (c : Int) (ns : List String) (P : SS → Prop) : String → SS → Prop := fun E S' => ∃ j : Nat, c = (j : Int) + 1 ∧ ns[j]? = some E ∧ P S'
def eI : String := "java/lang/IndexOutOfBoundsException"
def eA : String := "java/lang/IllegalArgumentException"
def eS : String := "java/lang/IllegalStateException"
