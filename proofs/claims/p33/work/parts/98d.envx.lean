/-! the strings, the statics, the exceptions at the start -/
set_option maxHeartbeats 4000000 in
theorem start_X {s : State} {b : Nat} (hts : ∀ w ∈ lw_tbl, w.before #[Value.ref b] s = true) (hgv : (Jvm.Cond.and given_1 narrow_1).before #[Value.ref b] s = true) : ∃ kf vf : Nat → Nat, ∀ Y : gY, yB Y = s.heap.size → yK Y = kf → yV Y = vf → gXS Y s := by
  have hf := flat_of_before _ hgv
  have hA : ∀ a : Nat, a < s.heap.size → ¬ (fun q : Nat => s.heap.size ≤ q) a := fun a h => Nat.not_le.mpr h
  obtain ⟨q0, t0⟩ := tx_of (own := "NecklaceSisters$Text") (k := 37) (tx := "") (bs := []) (hts _ (by decide +kernel)) (by decide) (hf _ (by decide +kernel)) (hf _ (by decide +kernel)) (hf _ (by decide +kernel)) (hf _ (by decide +kernel)) (fun j hj => absurd hj (Nat.not_lt_zero j)) hA
  obtain ⟨q1, t1⟩ := tx_of (own := "NecklaceSisters$Text") (k := 27) (tx := "kw") (bs := [107, 119]) (hts _ (by decide +kernel)) (by decide) (hf _ (by decide +kernel)) (hf _ (by decide +kernel)) (hf _ (by decide +kernel)) (hf _ (by decide +kernel)) (fun j hj => by
    have h2 : j < 2 := hj
    rcases (show j = 0 ∨ j = 1 by omega) with rfl | rfl
    · exact hf _ (by decide +kernel)
    · exact hf _ (by decide +kernel)) hA
  obtain ⟨q2, t2⟩ := tx_of (own := "NecklaceSisters$Text") (k := 29) (tx := "tu") (bs := [116, 117]) (hts _ (by decide +kernel)) (by decide) (hf _ (by decide +kernel)) (hf _ (by decide +kernel)) (hf _ (by decide +kernel)) (hf _ (by decide +kernel)) (fun j hj => by
    have h2 : j < 2 := hj
    rcases (show j = 0 ∨ j = 1 by omega) with rfl | rfl
    · exact hf _ (by decide +kernel)
    · exact hf _ (by decide +kernel)) hA
  obtain ⟨q3, t3⟩ := tx_of (own := "NecklaceSisters$Text") (k := 31) (tx := "tp") (bs := [116, 112]) (hts _ (by decide +kernel)) (by decide) (hf _ (by decide +kernel)) (hf _ (by decide +kernel)) (hf _ (by decide +kernel)) (hf _ (by decide +kernel)) (fun j hj => by
    have h2 : j < 2 := hj
    rcases (show j = 0 ∨ j = 1 by omega) with rfl | rfl
    · exact hf _ (by decide +kernel)
    · exact hf _ (by decide +kernel)) hA
  obtain ⟨q4, t4⟩ := tx_of (own := "NecklaceSisters$Text") (k := 33) (tx := "tuo") (bs := [116, 117, 111]) (hts _ (by decide +kernel)) (by decide) (hf _ (by decide +kernel)) (hf _ (by decide +kernel)) (hf _ (by decide +kernel)) (hf _ (by decide +kernel)) (fun j hj => by
    have h2 : j < 3 := hj
    rcases (show j = 0 ∨ j = 1 ∨ j = 2 by omega) with rfl | rfl | rfl
    · exact hf _ (by decide +kernel)
    · exact hf _ (by decide +kernel)
    · exact hf _ (by decide +kernel)) hA
  obtain ⟨q5, t5⟩ := tx_of (own := "NecklaceSisters$Text") (k := 35) (tx := "z") (bs := [122]) (hts _ (by decide +kernel)) (by decide) (hf _ (by decide +kernel)) (hf _ (by decide +kernel)) (hf _ (by decide +kernel)) (hf _ (by decide +kernel)) (fun j hj => by
    have h2 : j < 1 := hj
    rcases (show j = 0 by omega) with rfl
    exact hf _ (by decide +kernel)) hA
  refine ⟨fun i => match i with | 0 => q0.1 | 1 => q1.1 | 2 => q2.1 | 3 => q3.1 | 4 => q4.1 | _ => q5.1, fun i => match i with | 0 => q0.2 | 1 => q1.2 | 2 => q2.2 | 3 => q3.2 | 4 => q4.2 | _ => q5.2, fun Y hB hK hV => ?_⟩
  have hF : gF Y = fun q : Nat => s.heap.size ≤ q := by unfold gF; rw [hB]
  obtain ⟨cX, kX, hcur, -⟩ := Cond.instantiable_spec (hts (.instantiable "NecklaceSisters" 7) (by decide +kernel))
  unfold gXS
  rw [hF]
  refine ⟨vx_Zqof (hts _ (by decide +kernel)) (hts _ (by decide +kernel)) (hf _ (by decide +kernel)) hA, vx_Zqof (hts _ (by decide +kernel)) (hts _ (by decide +kernel)) (hf _ (by decide +kernel)) hA, va_Zof (hts _ (by decide +kernel)) (hts _ (by decide +kernel)) (va_eqt (hf _ (by decide +kernel))) hA, va_Zqof (hts _ (by decide +kernel)) (hts _ (by decide +kernel)) (hf _ (by decide +kernel)) hA, fun q hq => ?_, fun i hi => ?_, fun w hw => va_Nw.of (gOt_on w hw) (hts w (gOt_in w hw)), fun q hq => ?_⟩
  · have hr := hts _ (strX_in q hq)
    obtain ⟨k, cf, i, a, -, -, -, -, -, h6⟩ := Cond.stringRef_spec (args := #[Value.ref b]) (first := s) (o := none) (s := s) (idx := []) hcur hr
    exact ⟨a, vk_R.of hr h6⟩
  · unfold gTx
    rw [hF, hK, hV]
    match i, hi with
    | 0, _ => exact t0
    | 1, _ => exact t1
    | 2, _ => exact t2
    | 3, _ => exact t3
    | 4, _ => exact t4
    | 5, _ => exact t5
    | i + 6, h => omega
  · simp only [gNcs, List.mem_cons, List.not_mem_nil, or_false] at hq
    rcases hq with rfl | rfl | rfl
    · exact va_Nc.of (hf _ (by decide +kernel))
    · exact va_Nc.of (hf _ (by decide +kernel))
    · exact va_Nc.of (hf _ (by decide +kernel))
