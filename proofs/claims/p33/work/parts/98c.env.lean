/-! WHAT THE STATEMENT GIVES OF THE START, as the walk wants it -/
theorem tx_of {s : State} {args : Array Value} {own : String} {k : Nat} {tx : String} {bs : List Int32} {A : Nat → Prop} (hr : (Cond.stringRef own k tx).before args s = true) (hN : bs.length < 2 ^ 31) (hex : (Cond.exactly (.string own k) "java/lang/String").before args s = true) (hco : (Cond.eq (.field (.string own k) "java/lang/String" "coder" "B") (.int 0)).before args s = true)
    (har : (Cond.arrayOf (.field (.string own k) "java/lang/String" "value" "[B") .byte).before args s = true) (hle : (Cond.eq (.length (.field (.string own k) "java/lang/String" "value" "[B")) (.int (Int32.ofNat bs.length))).before args s = true)
    (hel : ∀ j : Nat, j < bs.length → (Cond.eq (.elem (.field (.string own k) "java/lang/String" "value" "[B") (.int (Int32.ofNat j))) (.int (bs.getD j 0))).before args s = true) (hA : ∀ a : Nat, a < s.heap.size → ¬ A a) :
    ∃ q : Nat × Nat, vk_R own k tx q.1 s ∧ va_O "java/lang/String" q.1 A s s.heap ∧ va_OF "java/lang/String" "coder" "B" (.int 0) q.1 A s s.heap ∧ va_OF "java/lang/String" "value" "[B" (.ref q.2) q.1 A s s.heap ∧ va_T .byte q.2 bs.length (fun j => .int (bs.getD j 0)) A s s.heap := by
  obtain ⟨a, c, cA, kA, q1, q2, q3, q4, q5, q6, -⟩ := Cond.exactly_spec (args := args) (first := s) (o := none) (s := s) (idx := []) (t := .string own k) (cls := "java/lang/String") hex
  obtain ⟨t, ht, hT⟩ := va_Tof (f := fun j => .int (bs.getD j 0)) (A := A) hN har (va_eqt hle) (fun j hj => va_eqt (hel j hj)) hA
  exact ⟨(a, t), vk_R.of hr q1, ⟨cA, q3, q5, by rw [q6]; exact q2, hA a (Array.getElem?_eq_some_iff.mp q3).1⟩, vk_OFof q1 (va_eqt hco) hA, vk_OFof q1 ht hA, hT⟩
theorem arr_of {s : State} {args : Array Value} {ty : FieldType} (h : (Cond.arrayClass ty).before args s = true) : ∃ cA : ClassId, ArrOfT s cA ty ∧ s.vm.findClass ("[" ++ ty.toString) = some cA := by
  obtain ⟨cA, kA, comp, h1, h2, h3⟩ := Cond.arrayClass_spec (args := args) (first := s) (o := none) (s := s) (idx := []) h
  exact ⟨cA, fun n z => ⟨fun k h => (by cases h), kA, h2, comp, h3⟩, h1⟩
theorem arrO_of {s : State} {args : Array Value} {n : String} (h : (Cond.arrayOver (.object n)).before args s = true) : ∃ cA : ClassId, ArrOfT s cA (.object n) ∧ va_RA s cA (.object n) := by
  obtain ⟨comp, cA, kA, h1, -, h2, h3, h4⟩ := Cond.arrayOver_spec (args := args) (first := s) (o := none) (s := s) (idx := []) h
  exact ⟨cA, fun m z => ⟨fun k h => (by cases h), kA, h2, comp, h3⟩, kA, comp, h2, h3, h1, h4⟩
theorem strX_in : ∀ q ∈ gStrX, Cond.stringRef "NecklaceSisters" q.1 q.2 ∈ lw_tbl := by decide +kernel
theorem gOt_in : ∀ w ∈ gOt, w ∈ lw_tbl := by decide +kernel
theorem gOt_on : ∀ w ∈ gOt, w.onTables = true := by decide +kernel
set_option maxHeartbeats 4000000 in
theorem start_K {s : State} {args : Array Value} (hts : ∀ w ∈ lw_tbl, w.before args s = true) : ∃ (D : va_G) (c0 c1 c2 c4 : ClassId), va_K D vwCl [(c0, .int), (c1, .char), (c2, .long), (c0, .int), (c4, .object "NecklaceSisters$Necklace")] s := by
  have htg : ∀ w ∈ lw_g, w.before args s = true := fun w hw => hts w (List.mem_filter.mp hw).1
  obtain ⟨d0, i0, k0⟩ := u_known (C := RX0) (T := TX0) (N := 4) (n := 4) htg cls0.2.1 (hts (.instantiable RX0 4) (by decide +kernel))
  obtain ⟨d1, i1, k1⟩ := u_known (C := RX1) (T := TX1) (N := 3) (n := 3) htg cls1.2.1 (hts (.instantiable RX1 3) (by decide +kernel))
  obtain ⟨d2, i2, k2⟩ := u_known (C := RX2) (T := TX2) (N := 9) (n := 9) htg cls2.2.1 (hts (.instantiable RX2 9) (by decide +kernel))
  obtain ⟨d3, i3, k3⟩ := u_known (C := RX5) (T := TX5) (N := 2) (n := 2) htg cls3.2.1 (hts (.instantiable RX5 2) (by decide +kernel))
  obtain ⟨d4, i4, k4⟩ := u_known (C := RX6) (T := TX6) (N := 2) (n := 2) htg cls4.2.1 (hts (.instantiable RX6 2) (by decide +kernel))
  obtain ⟨d5, i5, k5⟩ := u_known (C := RX7) (T := TX7) (N := 7) (n := 7) htg cls5.2.1 (hts (.instantiable RX7 7) (by decide +kernel))
  obtain ⟨c0, a0, f0⟩ := arr_of (hts (.arrayClass .int) (by decide +kernel))
  obtain ⟨c1, a1, f1⟩ := arr_of (hts (.arrayClass .char) (by decide +kernel))
  obtain ⟨c2, a2, f2⟩ := arr_of (hts (.arrayClass .long) (by decide +kernel))
  obtain ⟨c4, a4, f4⟩ := arrO_of (hts (.arrayOver (.object "NecklaceSisters$Necklace")) (by decide +kernel))
  have hD : ∀ c : Nat, ∃ p : ClassId × (Nat → Nat), ∀ q : vw_C, vwCl[c]? = some q → u_Kn s q.1 q.2.1 q.2.2 p.1 p.2 := by
    intro c
    match c with
    | 0 => exact ⟨(d0, i0), fun q hq => by cases hq; exact k0⟩
    | 1 => exact ⟨(d1, i1), fun q hq => by cases hq; exact k1⟩
    | 2 => exact ⟨(d2, i2), fun q hq => by cases hq; exact k2⟩
    | 3 => exact ⟨(d3, i3), fun q hq => by cases hq; exact k3⟩
    | 4 => exact ⟨(d4, i4), fun q hq => by cases hq; exact k4⟩
    | 5 => exact ⟨(d5, i5), fun q hq => by cases hq; exact k5⟩
    | c + 6 => exact ⟨(d0, i0), fun q hq => by simp [vwCl] at hq⟩
  obtain ⟨Df, hDf⟩ := Classical.axiomOfChoice hD
  refine ⟨(fun c => (Df c).1, fun c => (Df c).2), c0, c1, c2, c4, fun c q hq => hDf c q hq, fun k q hq => ?_⟩
  match k with
  | 0 => cases hq; exact ⟨a0, f0⟩
  | 1 => cases hq; exact ⟨a1, f1⟩
  | 2 => cases hq; exact ⟨a2, f2⟩
  | 3 => cases hq; exact ⟨a0, f0⟩
  | 4 => cases hq; exact ⟨a4, f4⟩
  | k + 5 => simp at hq
theorem start_N {s : State} {args : Array Value} (hts : ∀ w ∈ lw_tbl, w.before args s = true) : nN s := ⟨fun w hw => by
  have h5 := hts w (List.mem_filter.mp hw).1
  have h6 := (List.mem_filter.mp hw).2
  cases w <;> first | (cases h6; done) | exact va_Nw.of rfl h5, va_AO.of (hts (.arrayOver (.object "NecklaceSisters$Necklace")) (by decide +kernel))⟩
