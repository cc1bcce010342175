set_option maxHeartbeats 4000000 in
theorem c_X0_fewestByCuts {Y : gY} {l : Launch} {S : SS} {g : Int → Int} (hd : wd S g) (hw : wf g) (lim : Int) (hl : -1 ≤ lim ∧ lim < 1000) : gM Y l mX0_fewestByCuts S [.ref (yA Y 77), .int (iI lim)] (pV (.int (iI (fbV g lim))) (fun S' => (∀ m : Nat, m ≠ 79 → S' m = S m) ∧ (0 ≤ fbV g lim → ∀ i : Nat, (i : Int) < fbV g lim → S' 79 i = wyF g i))) := by
  refine gM_of (by decide) (Nat.le_of_ble_eq_true rfl) ?_
  intro X hXl B E
  show gW Y X S 0 [(0, .ref (yA Y 77)), (1, .int (iI lim))] []
  have lp11 : ∀ (fu : Nat) (cw : Nat) (x2 : Int) , x2 = ((cw : Int)) → cw ≤ 7 → (∀ j : Int, 0 ≤ j → j < cw → leW g j ≠ 0) → oddF g = 0 → 8 - cw < fu → gW Y X S 11 [(0, .ref (yA Y 77)), (1, .int (iI lim)), (2, .int (iI x2))] [] := by
    intro fu
    induction fu with
    | zero =>
      intro cw x2 e_x2 hcw hno ho hfu
      exact absurd hfu (Nat.not_lt_zero _)
    | succ fu ih =>
      intro cw x2 e_x2 hcw hno ho hfu
      subst e_x2
      refine g_iload_n (q := 12) B dX0_fewestByCuts_11 rfl 2 rfl ?_
      refine g_iload_n (q := 13) B dX0_fewestByCuts_12 rfl 1 rfl ?_
      refine g_icmp_gt (t := 41) (q := 16) B dX0_fewestByCuts_13 (by decide) rfl ⟨by omega, by omega⟩ ⟨by omega, by omega⟩ (fun cq13 => ?_) (fun cq13 => ?_)
      · refine g_iconst (q := 42) B dX0_fewestByCuts_41 rfl ?_
        refine g_iret B E dX0_fewestByCuts_42 ?_
        have e : fbV g lim = -1 := by
          have hfn := few_not (n := (cw : Int)) hno
          have hfi := isFe_in (isFe_ex g)
          rw [fbV, if_neg (by omega)]
        exact ⟨by rw [e], fun _ _ => rfl, fun h => by omega⟩
      · refine g_iload_n (q := 17) B dX0_fewestByCuts_16 rfl 2 rfl ?_
        refine g_bipush (q := 19) B dX0_fewestByCuts_17 rfl (by decide) ?_
        refine g_icmp_gt (t := 41) (q := 22) B dX0_fewestByCuts_19 (by decide) rfl ⟨by omega, by omega⟩ ⟨by omega, by omega⟩ (fun cq19 => ?_) (fun cq19 => ?_)
        · refine g_iconst (q := 42) B dX0_fewestByCuts_41 rfl ?_
          refine g_iret B E dX0_fewestByCuts_42 ?_
          have e : fbV g lim = -1 := by
            have hfn := few_not (n := (cw : Int)) hno
            have hfi := isFe_in (isFe_ex g)
            rw [fbV, if_neg (by omega)]
          exact ⟨by rw [e], fun _ _ => rfl, fun h => by omega⟩
        · refine g_aload_n (q := 23) B dX0_fewestByCuts_22 rfl 0 rfl ?_
          refine g_iload_n (q := 24) B dX0_fewestByCuts_23 rfl 2 rfl ?_
          refine g_iconst (q := 25) B dX0_fewestByCuts_24 rfl ?_
          refine g_iconst (q := 26) B dX0_fewestByCuts_25 rfl ?_
          refine g_lconst (z := 0) (q := 27) B dX0_fewestByCuts_26 rfl rfl ?_
          refine g_callS (q := 30) (As := [.ref (yA Y 77), .int (iI ((cw : Int))), .int (iI 0), .int (iI 0), .long (lI 0)]) (st := []) B dX0_fewestByCuts_27 rfl ((c_dw0 (l := xL X) hd hw ho cw (by omega))) (eX0_dividesWith cw) w716 (show 2 + cw + 1 ≤ 10 by omega) rfl rfl (Nat.le_of_ble_eq_true rfl) (g_kV (fun Sy hzSy => ?_))
          have hdv := dvV_in g cw 0 (fun _ => 0)
          refine g_if_eq (t := 35) (q := 33) B dX0_fewestByCuts_30 (by decide) rfl ⟨by omega, by omega⟩ (fun cq30 => ?_) (fun cq30 => ?_)
          · refine g_iinc (n := 2) (q := 38) B dX0_fewestByCuts_35 rfl rfl (by decide) (L' := [(2, .int (iI ((cw : Int) + 1))), (0, .ref (yA Y 77)), (1, .int (iI lim))]) rfl ?_
            refine g_goto (q := 11) B dX0_fewestByCuts_38 (by decide) ?_
            refine g_sub [1, 2, 0] rfl ?_
            refine g_eqS ((hzSy.1 cq30)) ?_
            exact ih (cw + 1) _ (by first | rfl | omega) (by first | assumption | omega) (by exact (fun j h0 h1 => by
          by_cases e : j = cw
          · rw [e]; intro z
            obtain ⟨t, ht⟩ := (leW_0 hw (by omega)).mp z
            have := dvV_1 (r := 0) (t := fun _ => 0) (fun i hi => absurd hi (Nat.not_lt_zero i)) ht
            omega
          · exact hno j h0 (by omega))) (by first | assumption | omega) (by omega)
          · refine g_iload_n (q := 34) B dX0_fewestByCuts_33 rfl 2 rfl ?_
            refine g_iret B E dX0_fewestByCuts_34 ?_
            have h1 : dvV g cw 0 (fun _ => 0) = 1 := by omega
            obtain ⟨u, F, hu, hF, hF1, hF2⟩ := hzSy.2 h1
            have hfe := few_at (by omega) ((leW_0 hw (by omega)).mpr ⟨u, hu.2.1⟩) hno
            have hwy := few_way hfe (low_lex hu)
            have e : fbV g lim = cw := by rw [fbV, if_pos (by omega), hfe]
            refine ⟨by rw [e], fun m hm => by rw [hF, us_a hm], fun _ i hi => ?_⟩
            rw [e] at hi
            rw [hF, us_eq, hF1 i (Nat.zero_le i) (by omega), hwy i (by omega)]
  refine g_aload_n (q := 1) B dX0_fewestByCuts_0 rfl 0 rfl ?_
  refine g_callV (n := 77) (ty := tyX0) (q := 4) (As := []) (st := []) B dX0_fewestByCuts_1 rfl (c_X0_isOddOfAKind (l := xL X) (S := S) hd hw) eX0_isOddOfAKind w707 (by decide) rfl rfl cls0 rfl rfl (Nat.le_of_ble_eq_true rfl) (g_kE ?_)
  have hodd := oddF_in g
  refine g_if_eq (t := 9) (q := 7) B dX0_fewestByCuts_4 (by decide) rfl ⟨by omega, by omega⟩ (fun cq4 => ?_) (fun cq4 => ?_)
  · refine g_iconst (q := 10) B dX0_fewestByCuts_9 rfl ?_
    refine g_istore_n (q := 11) B dX0_fewestByCuts_10 rfl (by decide) (L' := [(2, .int (iI 0)), (0, .ref (yA Y 77)), (1, .int (iI lim))]) rfl ?_
    refine g_sub [1, 2, 0] rfl ?_
    exact lp11 _ 0 _ (by first | rfl | omega) (by first | assumption | omega) (by exact (fun j h0 h1 => by omega)) (by first | assumption | omega) (Nat.lt_succ_self _)
  · refine g_iconst (q := 8) B dX0_fewestByCuts_7 rfl ?_
    refine g_iret B E dX0_fewestByCuts_8 ?_
    have hf := few_odd hw cq4
    have e : fbV g lim = -1 := by rw [fbV, if_neg (by omega)]
    exact ⟨by rw [e], fun _ _ => rfl, fun h => by omega⟩
