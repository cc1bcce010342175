set_option maxHeartbeats 4000000 in
theorem c_X8_fewestOf {Y : gY} {l : Launch} {S : SS} {n : Nat} (hm : isM n) (hw : wf (mw S n)) : gM Y l mX8_fewestOf S [.ref (yA Y 82), .ref (yA Y n)] (pV (.int (iI (fewF (mw S n)))) (fun S' => ∃ D T : Int → Int, feE (mw S n) T ∧ S' = us (us S 89 D) 90 T)) := by
  refine gM_of (by decide) (Nat.le_of_ble_eq_true rfl) ?_
  intro X hXl B E
  obtain ⟨⟨hn0, hn16⟩, ⟨hb0, hb1⟩, ⟨hm0, hm1⟩, ⟨hs0, hs1⟩, ⟨hc0, hc1⟩, hct, hkw, how⟩ := wfT hw
  have hn9 : n ≠ 89 := by rcases hm with h | h <;> omega
  have hn90 : n ≠ 90 := by rcases hm with h | h <;> omega
  show gW Y X S 0 [(0, .ref (yA Y 82)), (1, .ref (yA Y n))] []
  have lp7 : ∀ (fu : Nat) (k : Nat) (D T : Int → Int) (x2 : Int) , x2 = ((k : Int)) → lay (mw S n) D → k ≤ 7 → (∀ j : Int, 0 ≤ j → j < k → leW (mw S n) j ≠ 0) → 8 - k < fu → gW Y X (us (us S 89 D) 90 T) 7 [(0, .ref (yA Y 82)), (1, .ref (yA Y n)), (2, .int (iI x2))] [] := by
    intro fu
    induction fu with
    | zero =>
      intro k D T x2 e_x2 hD hk hz hfu
      exact absurd hfu (Nat.not_lt_zero _)
    | succ fu ih =>
      intro k D T x2 e_x2 hD hk hz hfu
      subst e_x2
      refine g_iload_n (q := 8) B dX8_fewestOf_7 rfl 2 rfl ?_
      refine g_bipush (q := 10) B dX8_fewestOf_8 rfl (by decide) ?_
      refine g_icmp_gt (t := 32) (q := 13) B dX8_fewestOf_10 (by decide) rfl ⟨by omega, by omega⟩ ⟨by omega, by omega⟩ (fun cq10 => ?_) (fun cq10 => ?_)
      · refine g_iconst (q := 33) B dX8_fewestOf_32 rfl ?_
        refine g_iret B E dX8_fewestOf_33 ?_
        obtain ⟨e, hf⟩ := feE_of (g := mw S n) (T := T) (x := -1) (Or.inl ⟨rfl, fun j j0 j1 => hz j j0 (by omega)⟩) (fun z => absurd z (by decide))
        exact ⟨by rw [e], D, T, hf, rfl⟩
      · refine g_aload_n (q := 14) B dX8_fewestOf_13 rfl 0 rfl ?_
        refine g_aload_n (q := 15) B dX8_fewestOf_14 rfl 1 rfl ?_
        refine g_iconst (q := 16) B dX8_fewestOf_15 rfl ?_
        refine g_iald (n := n) (q := 17) B dX8_fewestOf_16 rfl ((us_ne _ _ (by omega)).trans ((us_ne _ _ (by omega)).trans rfl)) (cw_M hm (S n)) (by decide) (by omega) (by omega) ?_
        refine g_iload_n (q := 18) B dX8_fewestOf_17 rfl 2 rfl ?_
        refine g_callV (n := 82) (ty := tyX8) (q := 21) (As := [.int (iI (S n 0)), .int (iI ((k : Int)))]) (st := []) B dX8_fewestOf_18 rfl (c_X8_leastWith (l := xL X) (S := (us (us S 89 D) 90 T)) (g := (mw S n)) hw hD (S n 0) ((k : Int)) rfl (by omega) (by omega)) eX8_leastWith w1190 (by decide) ((us_ne _ _ (by omega)).trans ((us_ne _ _ (by omega)).trans rfl)) rfl cls6 rfl rfl (Nat.le_of_ble_eq_true rfl) (g_kV (fun Sw hSw => ?_))
        obtain ⟨DSw, hDSw, rfl⟩ := hSw
        refine g_eqS (us_us _ _ _ _) ?_
        have hlr := isLe_in hw (by omega) (by omega) hDSw.1
        refine g_if_ne (t := 26) (q := 24) B dX8_fewestOf_21 (by decide) rfl ⟨by omega, by omega⟩ (fun cq21 => ?_) (fun cq21 => ?_)
        · refine g_iinc (n := 2) (q := 29) B dX8_fewestOf_26 rfl rfl (by decide) (L' := [(2, .int (iI ((k : Int) + 1))), (0, .ref (yA Y 82)), (1, .ref (yA Y n))]) rfl ?_
          refine g_goto (q := 7) B dX8_fewestOf_29 (by decide) ?_
          refine g_sub [1, 2, 0] rfl ?_
          have hz2 : ∀ j : Int, 0 ≤ j → j < ((k + 1 : Nat) : Int) → leW (mw S n) j ≠ 0 := by
            intro j j0 j1
            by_cases hj : j = k
            · subst hj; exact cq21
            · exact hz j j0 (by omega)
          exact ih (k + 1) D _ _ (by first | rfl | omega) (by first | assumption | omega) (by first | assumption | omega) (by exact hz2) (by omega)
        · refine g_iload_n (q := 25) B dX8_fewestOf_24 rfl 2 rfl ?_
          refine g_iret B E dX8_fewestOf_25 ?_
          obtain ⟨e, hf⟩ := feE_of (T := DSw) (x := (k : Int)) (Or.inr ⟨⟨by omega, by omega⟩, cq21, hz⟩) (fun _ => hDSw.2 cq21)
          exact ⟨by rw [e], D, DSw, hf, rfl⟩
  refine g_aload_n (q := 1) B dX8_fewestOf_0 rfl 0 rfl ?_
  refine g_aload_n (q := 2) B dX8_fewestOf_1 rfl 1 rfl ?_
  refine g_callV (n := 82) (ty := tyX8) (q := 5) (As := [.ref (yA Y n)]) (st := []) B dX8_fewestOf_2 rfl (c_X8_layOut (l := xL X) (S := S) hm hw) eX8_layOut w1186 (by decide) rfl rfl cls6 rfl rfl (Nat.le_of_ble_eq_true rfl) (g_k0 (fun Sl hSl => ?_))
  obtain ⟨DSl, hDSl, rfl⟩ := hSl
  refine g_iconst (q := 6) B dX8_fewestOf_5 rfl ?_
  refine g_istore_n (q := 7) B dX8_fewestOf_6 rfl (by decide) (L' := [(2, .int (iI 0)), (0, .ref (yA Y 82)), (1, .ref (yA Y n))]) rfl ?_
  refine g_sub [1, 2, 0] rfl ?_
  refine g_eqS ((us_id (us S 89 DSl) 90).symm) ?_
  exact lp7 _ 0 _ (S 90) _ (by first | rfl | omega) (by exact hDSl) (by first | assumption | omega) (by intro j j0 j1; omega) (Nat.lt_succ_self _)
set_option maxHeartbeats 4000000 in
theorem c_X8_isDivided {Y : gY} {l : Launch} {S : SS} (hw : wf (mw S 85)) (u : Int) (hu : rI u) : gM Y l mX8_isDivided S [.ref (yA Y 82), .int (iI u)] (pV (.int (bI (fewF (mw S 85) ≠ -1 ∧ fewF (mw S 85) ≤ u))) (fun S' => ∃ D T : Int → Int, S' = us (us S 89 D) 90 T)) := by
  refine gM_of (by decide) (Nat.le_of_ble_eq_true rfl) ?_
  intro X hXl B E
  obtain ⟨hu0, hu1⟩ := hu
  show gW Y X S 0 [(0, .ref (yA Y 82)), (1, .int (iI u))] []
  refine g_aload_n (q := 1) B dX8_isDivided_0 rfl 0 rfl ?_
  refine g_aload_n (q := 2) B dX8_isDivided_1 rfl 0 rfl ?_
  refine g_get (n := 82) (ty := tyX8) (q := 5) (v := .ref (yA Y 85)) B dX8_isDivided_2 rfl rfl rfl cls6 4 (by decide) w955 rfl ?_
  refine g_callV (n := 82) (ty := tyX8) (q := 8) (As := [.ref (yA Y 85)]) (st := []) B dX8_isDivided_5 rfl (c_X8_fewestOf (l := xL X) (S := S) (Or.inr rfl) hw) eX8_fewestOf w1182 (by decide) rfl rfl cls6 rfl rfl (Nat.le_of_ble_eq_true rfl) (g_kV (fun Sy hSy => ?_))
  obtain ⟨DSy, TSy, hFSy, rfl⟩ := hSy
  have hfrSy := isFe_in hFSy.1
  refine g_istore_n (q := 9) B dX8_isDivided_8 rfl (by decide) (L' := [(2, .int (iI (fewF (mw S 85)))), (0, .ref (yA Y 82)), (1, .int (iI u))]) rfl ?_
  refine g_iload_n (q := 10) B dX8_isDivided_9 rfl 0 rfl ?_
  refine g_iconst (q := 11) B dX8_isDivided_10 rfl ?_
  refine g_icmp_eq (t := 23) (q := 14) B dX8_isDivided_11 (by decide) rfl ⟨by omega, by omega⟩ ⟨by omega, by omega⟩ (fun cq11 => ?_) (fun cq11 => ?_)
  · refine g_iconst (q := 24) B dX8_isDivided_23 rfl ?_
    refine g_zret B E dX8_isDivided_24 rfl (by decide) ?_
    exact ⟨zf (by omega), DSy, TSy, rfl⟩
  · refine g_iload_n (q := 15) B dX8_isDivided_14 rfl 0 rfl ?_
    refine g_iload_n (q := 16) B dX8_isDivided_15 rfl 2 rfl ?_
    refine g_icmp_gt (t := 23) (q := 19) B dX8_isDivided_16 (by decide) rfl ⟨by omega, by omega⟩ ⟨by omega, by omega⟩ (fun cq16 => ?_) (fun cq16 => ?_)
    · refine g_iconst (q := 24) B dX8_isDivided_23 rfl ?_
      refine g_zret B E dX8_isDivided_24 rfl (by decide) ?_
      exact ⟨zf (by omega), DSy, TSy, rfl⟩
    · refine g_iconst (q := 20) B dX8_isDivided_19 rfl ?_
      refine g_goto (q := 24) B dX8_isDivided_20 (by decide) ?_
      refine g_zret B E dX8_isDivided_24 rfl (by decide) ?_
      exact ⟨zt (by omega), DSy, TSy, rfl⟩
set_option maxHeartbeats 4000000 in
theorem c_X8_fewest {Y : gY} {l : Launch} {S : SS} (hw : wf (mw S 84)) (u : Int) (hu : rI u) : gM Y l mX8_fewest S [.ref (yA Y 82), .int (iI u)] (pS S (cd_01 u) (fewF (mw S 84))) := by
  refine gM_of (by decide) (Nat.le_of_ble_eq_true rfl) ?_
  intro X hXl B E
  obtain ⟨⟨hn0, hn16⟩, ⟨hb0, hb1⟩, ⟨hm0, hm1⟩, ⟨hs0, hs1⟩, ⟨hc0, hc1⟩, hct, hkw, how⟩ := wfT hw
  obtain ⟨hu0, hu1⟩ := hu
  show gW Y X S 0 [(0, .ref (yA Y 82)), (1, .int (iI u))] []
  refine g_aload_n (q := 1) B dX8_fewest_0 rfl 0 rfl ?_
  refine g_iload_n (q := 2) B dX8_fewest_1 rfl 1 rfl ?_
  refine g_i2l (q := 3) B dX8_fewest_2 rfl ⟨by omega, by omega⟩ ?_
  refine g_lconst (z := 0) (q := 4) B dX8_fewest_3 rfl rfl ?_
  refine g_lconst (z := 1) (q := 5) B dX8_fewest_4 rfl rfl ?_
  refine g_callS (q := 8) (As := [.long (lI u), .long (lI 0), .long (lI 1)]) (st := [.ref (yA Y 82)]) B dX8_fewest_5 rfl (c_X8_in (l := xL X) (S := S) u 0 1 ⟨by omega, by omega⟩ ⟨by omega, by omega⟩ ⟨by omega, by omega⟩) eX8_in w1001 (by decide) rfl rfl (Nat.le_of_ble_eq_true rfl) (g_kE ?_)
  refine g_ifb_eq (t := 15) (q := 11) B dX8_fewest_8 (by decide) rfl (fun cq8 => ?_) (fun cq8 => ?_)
  · refine g_iconst (q := 16) B dX8_fewest_15 rfl ?_
    refine g_callV (n := 82) (ty := tyX8) (q := 19) (As := [.int (iI 1)]) (st := []) B dX8_fewest_16 rfl (c_X8_refused (l := xL X) (S := S) 1 ⟨by omega, by omega⟩) eX8_refused w1004 (by decide) rfl rfl cls6 rfl rfl (Nat.le_of_ble_eq_true rfl) (g_kE ?_)
    have hwz : wf (mw (us S 82 ((uq (S 82) 0 1))) 84) := by rw [us82_84]; exact hw
    have e84_0 : (us S 82 ((uq (S 82) 0 1))) 84 0 = S 84 0 := rfl
    have e84_r : runsF (mw (us S 82 ((uq (S 82) 0 1))) 84) = runsF (mw S 84) := rfl
    refine g_ifb_eq (t := 24) (q := 22) B dX8_fewest_19 (by decide) rfl (fun cq19 => ?_) (fun cq19 => ?_)
    · exact absurd cq19 (by decide)
    · refine g_iconst (q := 23) B dX8_fewest_22 rfl ?_
      refine g_iret B E dX8_fewest_23 ?_
      exact pS_n 1 (by rw [cd_01]; (repeat' split) <;> omega) (by decide)
  · refine g_iconst (q := 12) B dX8_fewest_11 rfl ?_
    refine g_goto (q := 16) B dX8_fewest_12 (by decide) ?_
    refine g_callV (n := 82) (ty := tyX8) (q := 19) (As := [.int (iI 0)]) (st := []) B dX8_fewest_16 rfl (c_X8_refused (l := xL X) (S := S) 0 ⟨by omega, by omega⟩) eX8_refused w1004 (by decide) rfl rfl cls6 rfl rfl (Nat.le_of_ble_eq_true rfl) (g_kE ?_)
    have hwz : wf (mw (us S 82 ((uq (S 82) 0 0))) 84) := by rw [us82_84]; exact hw
    have e84_0 : (us S 82 ((uq (S 82) 0 0))) 84 0 = S 84 0 := rfl
    have e84_r : runsF (mw (us S 82 ((uq (S 82) 0 0))) 84) = runsF (mw S 84) := rfl
    refine g_ifb_eq (t := 24) (q := 22) B dX8_fewest_19 (by decide) rfl (fun cq19 => ?_) (fun cq19 => ?_)
    · refine g_aload_n (q := 25) B dX8_fewest_24 rfl 0 rfl ?_
      refine g_aload_n (q := 26) B dX8_fewest_25 rfl 0 rfl ?_
      refine g_get (n := 82) (ty := tyX8) (q := 29) (v := .ref (yA Y 84)) B dX8_fewest_26 rfl (us_eq _ _ _) rfl cls6 3 (by decide) w954 rfl ?_
      refine g_callV (n := 82) (ty := tyX8) (q := 32) (As := [.ref (yA Y 84)]) (st := []) B dX8_fewest_29 rfl (c_X8_fewestOf (l := xL X) (S := (us S 82 ((uq (S 82) 0 0)))) (Or.inl rfl) hwz) eX8_fewestOf w1182 (by decide) (us_eq _ _ _) rfl cls6 rfl rfl (Nat.le_of_ble_eq_true rfl) (g_kV (fun Sy hSy => ?_))
      obtain ⟨DSy, TSy, hFSy, rfl⟩ := hSy
      have hfrSy := isFe_in hFSy.1
      have hF : feE (mw S 84) TSy := hFSy
      have hfr := isFe_in hF.1
      refine g_iret B E dX8_fewest_32 ?_
      exact pS_0 (by rw [cd_01]; (repeat' split) <;> omega) (by first | rfl | simp only [us82_84]) fz_0
    · exact absurd cq19 (by decide)
set_option maxHeartbeats 4000000 in
theorem c_X8_divided {Y : gY} {l : Launch} {S : SS} (hw : wf (mw S 84)) (k : Int) (hk : rI k) : gM Y l mX8_divided S [.ref (yA Y 82), .int (iI k)] (pS S (cd_m1 k) (divF (mw S 84) k)) := by
  refine gM_of (by decide) (Nat.le_of_ble_eq_true rfl) ?_
  intro X hXl B E
  obtain ⟨⟨hn0, hn16⟩, ⟨hb0, hb1⟩, ⟨hm0, hm1⟩, ⟨hs0, hs1⟩, ⟨hc0, hc1⟩, hct, hkw, how⟩ := wfT hw
  obtain ⟨hk0, hk1⟩ := hk
  show gW Y X S 0 [(0, .ref (yA Y 82)), (1, .int (iI k))] []
  refine g_aload_n (q := 1) B dX8_divided_0 rfl 0 rfl ?_
  refine g_iload_n (q := 2) B dX8_divided_1 rfl 1 rfl ?_
  refine g_if_lt (t := 9) (q := 5) B dX8_divided_2 (by decide) rfl ⟨by omega, by omega⟩ (fun cq2 => ?_) (fun cq2 => ?_)
  · refine g_iconst (q := 10) B dX8_divided_9 rfl ?_
    refine g_callV (n := 82) (ty := tyX8) (q := 13) (As := [.int (iI 1)]) (st := []) B dX8_divided_10 rfl (c_X8_refused (l := xL X) (S := S) 1 ⟨by omega, by omega⟩) eX8_refused w1004 (by decide) rfl rfl cls6 rfl rfl (Nat.le_of_ble_eq_true rfl) (g_kE ?_)
    have hwz : wf (mw (us S 82 ((uq (S 82) 0 1))) 84) := by rw [us82_84]; exact hw
    have e84_0 : (us S 82 ((uq (S 82) 0 1))) 84 0 = S 84 0 := rfl
    have e84_r : runsF (mw (us S 82 ((uq (S 82) 0 1))) 84) = runsF (mw S 84) := rfl
    refine g_ifb_eq (t := 18) (q := 16) B dX8_divided_13 (by decide) rfl (fun cq13 => ?_) (fun cq13 => ?_)
    · exact absurd cq13 (by decide)
    · refine g_iconst (q := 17) B dX8_divided_16 rfl ?_
      refine g_iret B E dX8_divided_17 ?_
      exact pS_n 1 (by rw [cd_m1]; (repeat' split) <;> omega) (by decide)
  · refine g_iconst (q := 6) B dX8_divided_5 rfl ?_
    refine g_goto (q := 10) B dX8_divided_6 (by decide) ?_
    refine g_callV (n := 82) (ty := tyX8) (q := 13) (As := [.int (iI 0)]) (st := []) B dX8_divided_10 rfl (c_X8_refused (l := xL X) (S := S) 0 ⟨by omega, by omega⟩) eX8_refused w1004 (by decide) rfl rfl cls6 rfl rfl (Nat.le_of_ble_eq_true rfl) (g_kE ?_)
    have hwz : wf (mw (us S 82 ((uq (S 82) 0 0))) 84) := by rw [us82_84]; exact hw
    have e84_0 : (us S 82 ((uq (S 82) 0 0))) 84 0 = S 84 0 := rfl
    have e84_r : runsF (mw (us S 82 ((uq (S 82) 0 0))) 84) = runsF (mw S 84) := rfl
    refine g_ifb_eq (t := 18) (q := 16) B dX8_divided_13 (by decide) rfl (fun cq13 => ?_) (fun cq13 => ?_)
    · refine g_aload_n (q := 19) B dX8_divided_18 rfl 0 rfl ?_
      refine g_aload_n (q := 20) B dX8_divided_19 rfl 0 rfl ?_
      refine g_get (n := 82) (ty := tyX8) (q := 23) (v := .ref (yA Y 84)) B dX8_divided_20 rfl (us_eq _ _ _) rfl cls6 3 (by decide) w954 rfl ?_
      refine g_callV (n := 82) (ty := tyX8) (q := 26) (As := [.ref (yA Y 84)]) (st := []) B dX8_divided_23 rfl (c_X8_fewestOf (l := xL X) (S := (us S 82 ((uq (S 82) 0 0)))) (Or.inl rfl) hwz) eX8_fewestOf w1182 (by decide) (us_eq _ _ _) rfl cls6 rfl rfl (Nat.le_of_ble_eq_true rfl) (g_kV (fun Sy hSy => ?_))
      obtain ⟨DSy, TSy, hFSy, rfl⟩ := hSy
      have hfrSy := isFe_in hFSy.1
      have hF : feE (mw S 84) TSy := hFSy
      have hfr := isFe_in hF.1
      refine g_istore_n (q := 27) B dX8_divided_26 rfl (by decide) (L' := [(2, .int (iI (fewF (mw (us S 82 ((uq (S 82) 0 0))) 84)))), (0, .ref (yA Y 82)), (1, .int (iI k))]) rfl ?_
      refine g_iload_n (q := 28) B dX8_divided_27 rfl 2 rfl ?_
      refine g_iload_n (q := 29) B dX8_divided_28 rfl 0 rfl ?_
      refine g_icmp_ge (t := 41) (q := 32) B dX8_divided_29 (by decide) rfl ⟨by omega, by omega⟩ ⟨by omega, by omega⟩ (fun cq29 => ?_) (fun cq29 => ?_)
      · refine g_iconst (q := 42) B dX8_divided_41 rfl ?_
        refine g_iret B E dX8_divided_42 ?_
        exact pS_0 (by rw [cd_m1]; (repeat' split) <;> omega) (show divF (mw S 84) k = _ by rw [divF, if_neg (show ¬ k < fewF (mw S 84) by have h : fewF (mw S 84) ≤ k := cq29; omega)]) fz_0
      · refine g_aload_n (q := 33) B dX8_divided_32 rfl 1 rfl ?_
        refine g_get (n := 82) (ty := tyX8) (q := 36) (v := .ref (yA Y 90)) B dX8_divided_33 rfl ((us_ne _ _ (by omega)).trans ((us_ne _ _ (by omega)).trans (us_eq _ _ _))) rfl cls6 10 (by decide) w961 rfl ?_
        refine g_iload_n (q := 37) B dX8_divided_36 rfl 2 rfl ?_
        refine g_iald (n := 90) (q := 38) B dX8_divided_37 rfl (us_eq _ _ _) rfl (by decide) (by omega) (by omega) ?_
        refine g_goto (q := 42) B dX8_divided_38 (by decide) ?_
        refine g_iret B E dX8_divided_42 ?_
        exact pS_0 (by rw [cd_m1]; (repeat' split) <;> omega) (show divF (mw S 84) k = _ by rw [divF, if_pos (show k < fewF (mw S 84) by have h : ¬ fewF (mw S 84) ≤ k := cq29; omega)]; exact wyF_of (hF.2 (by have h : ¬ fewF (mw S 84) ≤ k := cq29; omega)) (by have h : ¬ fewF (mw S 84) ≤ k := cq29; omega) k (by omega) (by have h : ¬ fewF (mw S 84) ≤ k := cq29; omega)) fz_0
    · exact absurd cq13 (by decide)
set_option maxHeartbeats 4000000 in
theorem c_X8_leastGap {Y : gY} {l : Launch} {S : SS} (hw : wf (mw S 84)) (m : Int) (hm : rI m) : gM Y l mX8_leastGap S [.ref (yA Y 82), .int (iI m)] (pS S (cd_04 m) (lgF (mw S 84) m.toNat)) := by
  refine gM_of (by decide) (Nat.le_of_ble_eq_true rfl) ?_
  intro X hXl B E
  obtain ⟨⟨hn0, hn16⟩, ⟨hb0, hb1⟩, ⟨hm0, hm1⟩, ⟨hs0, hs1⟩, ⟨hc0, hc1⟩, hct, hkw, how⟩ := wfT hw
  obtain ⟨hm0, hm1⟩ := hm
  have m0 : mw S 84 0 = S 84 0 := rfl
  show gW Y X S 0 [(0, .ref (yA Y 82)), (1, .int (iI m))] []
  have lp48 : ∀ (fu : Nat) (k : Nat) (D T : Int → Int) (x2 x3 : Int) , x2 = (lgF (mw S 84) k) → x3 = ((k : Int) + 1) → lay (mw S 84) D → (k : Int) ≤ m → -1 ≤ lgF (mw S 84) k ∧ lgF (mw S 84) k ≤ 4032 → m ≤ 4 → 5 - k < fu → gW Y X (us (us (us S 82 ((uq (S 82) 0 0))) 89 D) 90 T) 48 [(0, .ref (yA Y 82)), (1, .int (iI m)), (2, .int (iI x2)), (3, .int (iI x3))] [] := by
    intro fu
    induction fu with
    | zero =>
      intro k D T x2 x3 e_x2 e_x3 hD hk hlb hm4 hfu
      exact absurd hfu (Nat.not_lt_zero _)
    | succ fu ih =>
      intro k D T x2 x3 e_x2 e_x3 hD hk hlb hm4 hfu
      subst e_x2
      subst e_x3
      refine g_iload_n (q := 49) B dX8_leastGap_48 rfl 3 rfl ?_
      refine g_iload_n (q := 50) B dX8_leastGap_49 rfl 1 rfl ?_
      refine g_icmp_gt (t := 91) (q := 53) B dX8_leastGap_50 (by decide) rfl ⟨by omega, by omega⟩ ⟨by omega, by omega⟩ (fun cq50 => ?_) (fun cq50 => ?_)
      · refine g_iload_n (q := 92) B dX8_leastGap_91 rfl 2 rfl ?_
        refine g_iret B E dX8_leastGap_92 ?_
        exact pS_0 (by rw [cd_04]; (repeat' split) <;> omega) (by rw [show m.toNat = k by omega]) fz_0
      · refine g_aload_n (q := 54) B dX8_leastGap_53 rfl 0 rfl ?_
        refine g_aload_n (q := 55) B dX8_leastGap_54 rfl 0 rfl ?_
        refine g_get (n := 82) (ty := tyX8) (q := 58) (v := .ref (yA Y 84)) B dX8_leastGap_55 rfl ((us_ne _ _ (by omega)).trans ((us_ne _ _ (by omega)).trans (us_eq _ _ _))) rfl cls6 3 (by decide) w954 rfl ?_
        refine g_iconst (q := 59) B dX8_leastGap_58 rfl ?_
        refine g_iald (n := 84) (q := 60) B dX8_leastGap_59 rfl ((us_ne _ _ (by omega)).trans ((us_ne _ _ (by omega)).trans ((us_ne _ _ (by omega)).trans rfl))) rfl (by decide) (by omega) (by omega) ?_
        refine g_iload_n (q := 61) B dX8_leastGap_60 rfl 3 rfl ?_
        refine g_callV (n := 82) (ty := tyX8) (q := 64) (As := [.int (iI (S 84 0)), .int (iI ((k : Int) + 1))]) (st := []) B dX8_leastGap_61 rfl (c_X8_leastWith (l := xL X) (S := (us (us (us S 82 ((uq (S 82) 0 0))) 89 D) 90 T)) (g := (mw S 84)) hw hD (S 84 0) ((k : Int) + 1) rfl (by omega) (by omega)) eX8_leastWith w1190 (by decide) ((us_ne _ _ (by omega)).trans ((us_ne _ _ (by omega)).trans (us_eq _ _ _))) rfl cls6 rfl rfl (Nat.le_of_ble_eq_true rfl) (g_kV (fun Sv hSv => ?_))
        obtain ⟨DSv, hDSv, rfl⟩ := hSv
        refine g_eqS (us_us _ _ _ _) ?_
        have hlr := isLe_in hw (by omega) (by omega) hDSv.1
        refine g_istore (q := 66) B dX8_leastGap_64 rfl (by decide) (L' := [(4, .int (iI (leW (mw S 84) ((k : Int) + 1)))), (0, .ref (yA Y 82)), (1, .int (iI m)), (2, .int (iI (lgF (mw S 84) k))), (3, .int (iI ((k : Int) + 1)))]) rfl ?_
        refine g_iload (q := 68) B dX8_leastGap_66 rfl 0 rfl ?_
        refine g_iconst (q := 69) B dX8_leastGap_68 rfl ?_
        refine g_icmp_eq (t := 83) (q := 72) B dX8_leastGap_69 (by decide) rfl ⟨by omega, by omega⟩ ⟨by omega, by omega⟩ (fun cq69 => ?_) (fun cq69 => ?_)
        · refine g_iload_n (q := 84) B dX8_leastGap_83 rfl 3 rfl ?_
          refine g_istore_n (q := 85) B dX8_leastGap_84 rfl (by decide) (L' := [(2, .int (iI (lgF (mw S 84) k))), (4, .int (iI (leW (mw S 84) ((k : Int) + 1)))), (0, .ref (yA Y 82)), (1, .int (iI m)), (3, .int (iI ((k : Int) + 1)))]) rfl ?_
          refine g_iinc (n := 4) (q := 88) B dX8_leastGap_85 rfl rfl (by decide) (L' := [(3, .int (iI ((k : Int) + 1 + 1))), (2, .int (iI (lgF (mw S 84) k))), (4, .int (iI (leW (mw S 84) ((k : Int) + 1)))), (0, .ref (yA Y 82)), (1, .int (iI m))]) rfl ?_
          refine g_goto (q := 48) B dX8_leastGap_88 (by decide) ?_
          refine g_sub [3, 4, 1, 0] rfl ?_
          have hls : lgF (mw S 84) (k + 1) = if leW (mw S 84) ((k : Int) + 1) ≠ -1 ∧ leW (mw S 84) ((k : Int) + 1) < lgF (mw S 84) k then leW (mw S 84) ((k : Int) + 1) else lgF (mw S 84) k := rfl
          exact ih (k + 1) D _ _ _ (by rw [hls]; split <;> omega) (by first | rfl | omega) (by first | assumption | omega) (by first | assumption | omega) (by rw [hls]; split <;> omega) (by first | assumption | omega) (by omega)
        · refine g_iload (q := 74) B dX8_leastGap_72 rfl 0 rfl ?_
          refine g_iload_n (q := 75) B dX8_leastGap_74 rfl 3 rfl ?_
          refine g_icmp_ge (t := 83) (q := 78) B dX8_leastGap_75 (by decide) rfl ⟨by omega, by omega⟩ ⟨by omega, by omega⟩ (fun cq75 => ?_) (fun cq75 => ?_)
          · refine g_iload_n (q := 84) B dX8_leastGap_83 rfl 3 rfl ?_
            refine g_istore_n (q := 85) B dX8_leastGap_84 rfl (by decide) (L' := [(2, .int (iI (lgF (mw S 84) k))), (4, .int (iI (leW (mw S 84) ((k : Int) + 1)))), (0, .ref (yA Y 82)), (1, .int (iI m)), (3, .int (iI ((k : Int) + 1)))]) rfl ?_
            refine g_iinc (n := 4) (q := 88) B dX8_leastGap_85 rfl rfl (by decide) (L' := [(3, .int (iI ((k : Int) + 1 + 1))), (2, .int (iI (lgF (mw S 84) k))), (4, .int (iI (leW (mw S 84) ((k : Int) + 1)))), (0, .ref (yA Y 82)), (1, .int (iI m))]) rfl ?_
            refine g_goto (q := 48) B dX8_leastGap_88 (by decide) ?_
            refine g_sub [3, 4, 1, 0] rfl ?_
            have hls : lgF (mw S 84) (k + 1) = if leW (mw S 84) ((k : Int) + 1) ≠ -1 ∧ leW (mw S 84) ((k : Int) + 1) < lgF (mw S 84) k then leW (mw S 84) ((k : Int) + 1) else lgF (mw S 84) k := rfl
            exact ih (k + 1) D _ _ _ (by rw [hls]; split <;> omega) (by first | rfl | omega) (by first | assumption | omega) (by first | assumption | omega) (by rw [hls]; split <;> omega) (by first | assumption | omega) (by omega)
          · refine g_iload (q := 80) B dX8_leastGap_78 rfl 0 rfl ?_
            refine g_goto (q := 84) B dX8_leastGap_80 (by decide) ?_
            refine g_istore_n (q := 85) B dX8_leastGap_84 rfl (by decide) (L' := [(2, .int (iI (leW (mw S 84) ((k : Int) + 1)))), (4, .int (iI (leW (mw S 84) ((k : Int) + 1)))), (0, .ref (yA Y 82)), (1, .int (iI m)), (3, .int (iI ((k : Int) + 1)))]) rfl ?_
            refine g_iinc (n := 4) (q := 88) B dX8_leastGap_85 rfl rfl (by decide) (L' := [(3, .int (iI ((k : Int) + 1 + 1))), (2, .int (iI (leW (mw S 84) ((k : Int) + 1)))), (4, .int (iI (leW (mw S 84) ((k : Int) + 1)))), (0, .ref (yA Y 82)), (1, .int (iI m))]) rfl ?_
            refine g_goto (q := 48) B dX8_leastGap_88 (by decide) ?_
            refine g_sub [3, 4, 1, 0] rfl ?_
            have hls : lgF (mw S 84) (k + 1) = if leW (mw S 84) ((k : Int) + 1) ≠ -1 ∧ leW (mw S 84) ((k : Int) + 1) < lgF (mw S 84) k then leW (mw S 84) ((k : Int) + 1) else lgF (mw S 84) k := rfl
            exact ih (k + 1) D _ _ _ (by rw [hls]; split <;> omega) (by first | rfl | omega) (by first | assumption | omega) (by first | assumption | omega) (by rw [hls]; split <;> omega) (by first | assumption | omega) (by omega)
  refine g_aload_n (q := 1) B dX8_leastGap_0 rfl 0 rfl ?_
  refine g_iload_n (q := 2) B dX8_leastGap_1 rfl 1 rfl ?_
  refine g_i2l (q := 3) B dX8_leastGap_2 rfl ⟨by omega, by omega⟩ ?_
  refine g_lconst (z := 0) (q := 4) B dX8_leastGap_3 rfl rfl ?_
  refine g_ldc2 (z := 4) (q := 7) B dX8_leastGap_4 rfl w1226 (by decide) ?_
  refine g_callS (q := 10) (As := [.long (lI m), .long (lI 0), .long (lI 4)]) (st := [.ref (yA Y 82)]) B dX8_leastGap_7 rfl (c_X8_in (l := xL X) (S := S) m 0 4 ⟨by omega, by omega⟩ ⟨by omega, by omega⟩ ⟨by omega, by omega⟩) eX8_in w1001 (by decide) rfl rfl (Nat.le_of_ble_eq_true rfl) (g_kE ?_)
  refine g_ifb_eq (t := 17) (q := 13) B dX8_leastGap_10 (by decide) rfl (fun cq10 => ?_) (fun cq10 => ?_)
  · refine g_iconst (q := 18) B dX8_leastGap_17 rfl ?_
    refine g_callV (n := 82) (ty := tyX8) (q := 21) (As := [.int (iI 1)]) (st := []) B dX8_leastGap_18 rfl (c_X8_refused (l := xL X) (S := S) 1 ⟨by omega, by omega⟩) eX8_refused w1004 (by decide) rfl rfl cls6 rfl rfl (Nat.le_of_ble_eq_true rfl) (g_kE ?_)
    have hwz : wf (mw (us S 82 ((uq (S 82) 0 1))) 84) := by rw [us82_84]; exact hw
    have e84_0 : (us S 82 ((uq (S 82) 0 1))) 84 0 = S 84 0 := rfl
    have e84_r : runsF (mw (us S 82 ((uq (S 82) 0 1))) 84) = runsF (mw S 84) := rfl
    refine g_ifb_eq (t := 26) (q := 24) B dX8_leastGap_21 (by decide) rfl (fun cq21 => ?_) (fun cq21 => ?_)
    · exact absurd cq21 (by decide)
    · refine g_iconst (q := 25) B dX8_leastGap_24 rfl ?_
      refine g_iret B E dX8_leastGap_25 ?_
      exact pS_n 1 (by rw [cd_04]; (repeat' split) <;> omega) (by decide)
  · refine g_iconst (q := 14) B dX8_leastGap_13 rfl ?_
    refine g_goto (q := 18) B dX8_leastGap_14 (by decide) ?_
    refine g_callV (n := 82) (ty := tyX8) (q := 21) (As := [.int (iI 0)]) (st := []) B dX8_leastGap_18 rfl (c_X8_refused (l := xL X) (S := S) 0 ⟨by omega, by omega⟩) eX8_refused w1004 (by decide) rfl rfl cls6 rfl rfl (Nat.le_of_ble_eq_true rfl) (g_kE ?_)
    have hwz : wf (mw (us S 82 ((uq (S 82) 0 0))) 84) := by rw [us82_84]; exact hw
    have e84_0 : (us S 82 ((uq (S 82) 0 0))) 84 0 = S 84 0 := rfl
    have e84_r : runsF (mw (us S 82 ((uq (S 82) 0 0))) 84) = runsF (mw S 84) := rfl
    refine g_ifb_eq (t := 26) (q := 24) B dX8_leastGap_21 (by decide) rfl (fun cq21 => ?_) (fun cq21 => ?_)
    · refine g_aload_n (q := 27) B dX8_leastGap_26 rfl 0 rfl ?_
      refine g_aload_n (q := 28) B dX8_leastGap_27 rfl 0 rfl ?_
      refine g_get (n := 82) (ty := tyX8) (q := 31) (v := .ref (yA Y 84)) B dX8_leastGap_28 rfl (us_eq _ _ _) rfl cls6 3 (by decide) w954 rfl ?_
      refine g_callV (n := 82) (ty := tyX8) (q := 34) (As := [.ref (yA Y 84)]) (st := []) B dX8_leastGap_31 rfl (c_X8_layOut (l := xL X) (S := (us S 82 ((uq (S 82) 0 0)))) (Or.inl rfl) hwz) eX8_layOut w1186 (by decide) (us_eq _ _ _) rfl cls6 rfl rfl (Nat.le_of_ble_eq_true rfl) (g_k0 (fun Sl hSl => ?_))
      obtain ⟨DSl, hDSl, rfl⟩ := hSl
      refine g_aload_n (q := 35) B dX8_leastGap_34 rfl 0 rfl ?_
      refine g_aload_n (q := 36) B dX8_leastGap_35 rfl 0 rfl ?_
      refine g_get (n := 82) (ty := tyX8) (q := 39) (v := .ref (yA Y 84)) B dX8_leastGap_36 rfl ((us_ne _ _ (by omega)).trans (us_eq _ _ _)) rfl cls6 3 (by decide) w954 rfl ?_
      refine g_iconst (q := 40) B dX8_leastGap_39 rfl ?_
      refine g_iald (n := 84) (q := 41) B dX8_leastGap_40 rfl ((us_ne _ _ (by omega)).trans ((us_ne _ _ (by omega)).trans rfl)) rfl (by decide) (by omega) (by omega) ?_
      refine g_iconst (q := 42) B dX8_leastGap_41 rfl ?_
      refine g_callV (n := 82) (ty := tyX8) (q := 45) (As := [.int (iI (S 84 0)), .int (iI 0)]) (st := []) B dX8_leastGap_42 rfl (c_X8_leastWith (l := xL X) (S := (us (us S 82 ((uq (S 82) 0 0))) 89 DSl)) (g := (mw S 84)) hw hDSl (S 84 0) 0 rfl (by omega) (by omega)) eX8_leastWith w1190 (by decide) ((us_ne _ _ (by omega)).trans (us_eq _ _ _)) rfl cls6 rfl rfl (Nat.le_of_ble_eq_true rfl) (g_kV (fun Sw hSw => ?_))
      obtain ⟨DSw, hDSw, rfl⟩ := hSw
      have hlr := isLe_in hw (by omega) (by omega) hDSw.1
      refine g_istore_n (q := 46) B dX8_leastGap_45 rfl (by decide) (L' := [(2, .int (iI (leW (mw S 84) 0))), (0, .ref (yA Y 82)), (1, .int (iI m))]) rfl ?_
      refine g_iconst (q := 47) B dX8_leastGap_46 rfl ?_
      refine g_istore_n (q := 48) B dX8_leastGap_47 rfl (by decide) (L' := [(3, .int (iI 1)), (2, .int (iI (leW (mw S 84) 0))), (0, .ref (yA Y 82)), (1, .int (iI m))]) rfl ?_
      refine g_sub [2, 3, 1, 0] rfl ?_
      exact lp48 _ 0 _ _ _ _ (by first | rfl | omega) (by first | rfl | omega) (by exact hDSl) (by first | assumption | omega) (by exact hlr) (by first | assumption | omega) (Nat.lt_succ_self _)
    · exact absurd cq21 (by decide)
set_option maxHeartbeats 4000000 in
theorem c_X8_bestBreak {Y : gY} {l : Launch} {S : SS} (hw : wf (mw S 84)) : gM Y l mX8_bestBreak S [.ref (yA Y 82)] (pS S (0) ((bbG (mw S 84) (S 84 0).toNat).1)) := by
  refine gM_of (by decide) (Nat.le_of_ble_eq_true rfl) ?_
  intro X hXl B E
  obtain ⟨⟨hn0, hn16⟩, ⟨hb0, hb1⟩, ⟨hm0, hm1⟩, ⟨hs0, hs1⟩, ⟨hc0, hc1⟩, hct, hkw, how⟩ := wfT hw
  show gW Y X S 0 [(0, .ref (yA Y 82))] []
  have lp11 : ∀ (fu : Nat) (n : Nat) (Sx : SS) (x1 x2 x3 : Int) , x1 = ((bbG (mw S 84) n).1) → x2 = ((bbG (mw S 84) n).2) → x3 = ((n : Int)) → (n : Int) ≤ S 84 0 → fz S 0 Sx → (-1 ≤ (bbG (mw S 84) n).1 ∧ (bbG (mw S 84) n).1 < n) ∧ 0 ≤ (bbG (mw S 84) n).2 ∧ (bbG (mw S 84) n).2 ≤ 6 → 17 - n < fu → gW Y X Sx 11 [(0, .ref (yA Y 82)), (1, .int (iI x1)), (2, .int (iI x2)), (3, .int (iI x3))] [] := by
    intro fu
    induction fu with
    | zero =>
      intro n Sx x1 x2 x3 e_x1 e_x2 e_x3 hn hf hbi hfu
      exact absurd hfu (Nat.not_lt_zero _)
    | succ fu ih =>
      intro n Sx x1 x2 x3 e_x1 e_x2 e_x3 hn hf hbi hfu
      subst e_x1
      subst e_x2
      subst e_x3
      have e84 : Sx 84 = S 84 := hf 84 (by decide) (by decide) (by decide)
      have em : mw Sx 84 = mw S 84 := by funext b; unfold mw; rw [e84]
      have e0 : Sx 84 0 = S 84 0 := by rw [e84]
      refine g_iload_n (q := 12) B dX8_bestBreak_11 rfl 3 rfl ?_
      refine g_aload_n (q := 13) B dX8_bestBreak_12 rfl 0 rfl ?_
      refine g_get (n := 82) (ty := tyX8) (q := 16) (v := .ref (yA Y 84)) B dX8_bestBreak_13 rfl rfl rfl cls6 3 (by decide) w954 rfl ?_
      refine g_iconst (q := 17) B dX8_bestBreak_16 rfl ?_
      refine g_iald (n := 84) (q := 18) B dX8_bestBreak_17 rfl rfl rfl (by decide) (by omega) (by omega) ?_
      refine g_icmp_ge (t := 106) (q := 21) B dX8_bestBreak_18 (by decide) rfl ⟨by omega, by omega⟩ ⟨by omega, by omega⟩ (fun cq18 => ?_) (fun cq18 => ?_)
      · refine g_iload_n (q := 107) B dX8_bestBreak_106 rfl 1 rfl ?_
        refine g_iret B E dX8_bestBreak_107 ?_
        exact pS_0 rfl (by rw [show (S 84 0).toNat = n by omega]) hf
      · refine g_aload_n (q := 22) B dX8_bestBreak_21 rfl 0 rfl ?_
        refine g_get (n := 82) (ty := tyX8) (q := 25) (v := .ref (yA Y 84)) B dX8_bestBreak_22 rfl rfl rfl cls6 3 (by decide) w954 rfl ?_
        refine g_iconst (q := 26) B dX8_bestBreak_25 rfl ?_
        refine g_aload_n (q := 27) B dX8_bestBreak_26 rfl 0 rfl ?_
        refine g_get (n := 82) (ty := tyX8) (q := 30) (v := .ref (yA Y 85)) B dX8_bestBreak_27 rfl rfl rfl cls6 4 (by decide) w955 rfl ?_
        refine g_iconst (q := 31) B dX8_bestBreak_30 rfl ?_
        refine g_callS (q := 34) (As := [.ref (yA Y 84), .int (iI 0), .ref (yA Y 85), .int (iI 0)]) (st := []) B dX8_bestBreak_31 rfl (c_X8_copyState (l := xL X) (S := Sx) (Or.inl ⟨rfl, rfl⟩) (Or.inr (Or.inl ⟨rfl, rfl⟩)) (by decide) 0 0 (by omega) (by omega) (by omega) (by omega)) eX8_copyState w1105 (by decide) rfl rfl (Nat.le_of_ble_eq_true rfl) (g_0E ?_)
        refine g_aload_n (q := 35) B dX8_bestBreak_34 rfl 0 rfl ?_
        refine g_get (n := 82) (ty := tyX8) (q := 38) (v := .ref (yA Y 85)) B dX8_bestBreak_35 rfl ((us_ne _ _ (by omega)).trans rfl) rfl cls6 4 (by decide) w955 rfl ?_
        refine g_iload_n (q := 39) B dX8_bestBreak_38 rfl 3 rfl ?_
        have hwx : wf (mw (us Sx 85 (cpF (Sx 85) (Sx 84) 0 0 54)) 85) := by rw [mw_cp, em]; exact hw
        have ex0 : us Sx 85 (cpF (Sx 85) (Sx 84) 0 0 54) 85 0 = S 84 0 := by have h := congrFun (mw_cp Sx) 0; rw [em] at h; exact h
        refine g_callS (q := 42) (As := [.ref (yA Y 85), .int (iI ((n : Int)))]) (st := []) B dX8_bestBreak_39 rfl (c_X8_breakOn (l := xL X) (S := (us Sx 85 ((cpF (Sx 85) (Sx 84) 0 0 54)))) (Or.inr rfl) hwx ((n : Int)) (by omega) (by omega)) eX8_breakOn w1044 (by decide) rfl rfl (Nat.le_of_ble_eq_true rfl) (g_kV (fun Sy hSy => ?_))
        obtain ⟨hvSy, hfSy⟩ := hSy
        refine g_pop (q := 43) B dX8_bestBreak_42 rfl rfl ?_
        refine g_aload_n (q := 44) B dX8_bestBreak_43 rfl 0 rfl ?_
        refine g_aload_n (q := 45) B dX8_bestBreak_44 rfl 0 rfl ?_
        refine g_get (n := 82) (ty := tyX8) (q := 48) (v := .ref (yA Y 85)) B dX8_bestBreak_45 rfl rfl rfl cls6 4 (by decide) w955 rfl ?_
        have hmy : mw Sy 85 = brkF (mw S 84) n := by rw [hvSy, mw_cp, em]
        have hwv : wf (mw Sy 85) := by rw [hmy]; exact wf_brk hw (by omega) (by rw [mw_0]; omega)
        refine g_callV (n := 82) (ty := tyX8) (q := 51) (As := [.ref (yA Y 85)]) (st := []) B dX8_bestBreak_48 rfl (c_X8_fewestOf (l := xL X) (S := Sy) (Or.inr rfl) hwv) eX8_fewestOf w1182 (by decide) rfl rfl cls6 rfl rfl (Nat.le_of_ble_eq_true rfl) (g_kV (fun Sv hSv => ?_))
        obtain ⟨DSv, TSv, hFSv, rfl⟩ := hSv
        have hfrSv := isFe_in hFSv.1
        rw [hmy] at hfrSv
        refine g_eqT (st' := [.int (iI (fewF (brkF (mw S 84) (n : Int))))]) (congrArg (fun z => Value.int (iI z) :: []) (show fewF (mw Sy 85) = fewF (brkF (mw S 84) (n : Int)) by rw [hmy])) ?_
        refine g_istore (q := 53) B dX8_bestBreak_51 rfl (by decide) (L' := [(4, .int (iI (fewF (brkF (mw S 84) (n : Int))))), (0, .ref (yA Y 82)), (1, .int (iI ((bbG (mw S 84) n).1))), (2, .int (iI ((bbG (mw S 84) n).2))), (3, .int (iI ((n : Int))))]) rfl ?_
        refine g_iload (q := 55) B dX8_bestBreak_53 rfl 0 rfl ?_
        refine g_iconst (q := 56) B dX8_bestBreak_55 rfl ?_
        refine g_icmp_eq (t := 74) (q := 59) B dX8_bestBreak_56 (by decide) rfl ⟨by omega, by omega⟩ ⟨by omega, by omega⟩ (fun cq56 => ?_) (fun cq56 => ?_)
        · refine g_iconst (q := 75) B dX8_bestBreak_74 rfl ?_
          refine g_istore (q := 77) B dX8_bestBreak_75 rfl (by decide) (L' := [(5, .int (iI 0)), (4, .int (iI (fewF (brkF (mw S 84) (n : Int))))), (0, .ref (yA Y 82)), (1, .int (iI ((bbG (mw S 84) n).1))), (2, .int (iI ((bbG (mw S 84) n).2))), (3, .int (iI ((n : Int))))]) rfl ?_
          refine g_iload (q := 79) B dX8_bestBreak_77 rfl 0 rfl ?_
          refine g_if_eq (t := 86) (q := 82) B dX8_bestBreak_79 (by decide) rfl ⟨by omega, by omega⟩ (fun cq79 => ?_) (fun cq79 => ?_)
          · refine g_iload_n (q := 87) B dX8_bestBreak_86 rfl 3 rfl ?_
            refine g_istore_n (q := 88) B dX8_bestBreak_87 rfl (by decide) (L' := [(1, .int (iI ((bbG (mw S 84) n).1))), (5, .int (iI 0)), (4, .int (iI (fewF (brkF (mw S 84) (n : Int))))), (0, .ref (yA Y 82)), (2, .int (iI ((bbG (mw S 84) n).2))), (3, .int (iI ((n : Int))))]) rfl ?_
            refine g_iload (q := 90) B dX8_bestBreak_88 rfl 1 rfl ?_
            refine g_if_eq (t := 98) (q := 93) B dX8_bestBreak_90 (by decide) rfl ⟨by omega, by omega⟩ (fun cq90 => ?_) (fun cq90 => ?_)
            · refine g_iload_n (q := 99) B dX8_bestBreak_98 rfl 4 rfl ?_
              refine g_istore_n (q := 100) B dX8_bestBreak_99 rfl (by decide) (L' := [(2, .int (iI ((bbG (mw S 84) n).2))), (1, .int (iI ((bbG (mw S 84) n).1))), (5, .int (iI 0)), (4, .int (iI (fewF (brkF (mw S 84) (n : Int))))), (0, .ref (yA Y 82)), (3, .int (iI ((n : Int))))]) rfl ?_
              refine g_iinc (n := 5) (q := 103) B dX8_bestBreak_100 rfl rfl (by decide) (L' := [(3, .int (iI ((n : Int) + 1))), (2, .int (iI ((bbG (mw S 84) n).2))), (1, .int (iI ((bbG (mw S 84) n).1))), (5, .int (iI 0)), (4, .int (iI (fewF (brkF (mw S 84) (n : Int))))), (0, .ref (yA Y 82))]) rfl ?_
              refine g_goto (q := 11) B dX8_bestBreak_103 (by decide) ?_
              refine g_sub [5, 2, 1, 0] rfl ?_
              have b1 := bbG_s1 (mw S 84) n
              have b2 := bbG_s2 (mw S 84) n
              exact ih (n + 1) _ _ _ _ (by rw [b1]; split <;> omega) (by rw [b2]; split <;> omega) (by first | rfl | omega) (by first | assumption | omega) (by exact fz_s hf hfSy) (by rw [b1, b2]; split <;> omega) (by omega)
            · refine g_iload (q := 95) B dX8_bestBreak_93 rfl 2 rfl ?_
              refine g_goto (q := 99) B dX8_bestBreak_95 (by decide) ?_
              refine g_istore_n (q := 100) B dX8_bestBreak_99 rfl (by decide) (L' := [(2, .int (iI (fewF (brkF (mw S 84) (n : Int))))), (1, .int (iI ((bbG (mw S 84) n).1))), (5, .int (iI 0)), (4, .int (iI (fewF (brkF (mw S 84) (n : Int))))), (0, .ref (yA Y 82)), (3, .int (iI ((n : Int))))]) rfl ?_
              refine g_iinc (n := 5) (q := 103) B dX8_bestBreak_100 rfl rfl (by decide) (L' := [(3, .int (iI ((n : Int) + 1))), (2, .int (iI (fewF (brkF (mw S 84) (n : Int))))), (1, .int (iI ((bbG (mw S 84) n).1))), (5, .int (iI 0)), (4, .int (iI (fewF (brkF (mw S 84) (n : Int))))), (0, .ref (yA Y 82))]) rfl ?_
              refine g_goto (q := 11) B dX8_bestBreak_103 (by decide) ?_
              refine g_sub [5, 2, 1, 0] rfl ?_
              have b1 := bbG_s1 (mw S 84) n
              have b2 := bbG_s2 (mw S 84) n
              exact ih (n + 1) _ _ _ _ (by rw [b1]; split <;> omega) (by rw [b2]; split <;> omega) (by first | rfl | omega) (by first | assumption | omega) (by exact fz_s hf hfSy) (by rw [b1, b2]; split <;> omega) (by omega)
          · refine g_iload_n (q := 83) B dX8_bestBreak_82 rfl 5 rfl ?_
            refine g_goto (q := 87) B dX8_bestBreak_83 (by decide) ?_
            refine g_istore_n (q := 88) B dX8_bestBreak_87 rfl (by decide) (L' := [(1, .int (iI ((n : Int)))), (5, .int (iI 0)), (4, .int (iI (fewF (brkF (mw S 84) (n : Int))))), (0, .ref (yA Y 82)), (2, .int (iI ((bbG (mw S 84) n).2))), (3, .int (iI ((n : Int))))]) rfl ?_
            refine g_iload (q := 90) B dX8_bestBreak_88 rfl 1 rfl ?_
            refine g_if_eq (t := 98) (q := 93) B dX8_bestBreak_90 (by decide) rfl ⟨by omega, by omega⟩ (fun cq90 => ?_) (fun cq90 => ?_)
            · refine g_iload_n (q := 99) B dX8_bestBreak_98 rfl 4 rfl ?_
              refine g_istore_n (q := 100) B dX8_bestBreak_99 rfl (by decide) (L' := [(2, .int (iI ((bbG (mw S 84) n).2))), (1, .int (iI ((n : Int)))), (5, .int (iI 0)), (4, .int (iI (fewF (brkF (mw S 84) (n : Int))))), (0, .ref (yA Y 82)), (3, .int (iI ((n : Int))))]) rfl ?_
              refine g_iinc (n := 5) (q := 103) B dX8_bestBreak_100 rfl rfl (by decide) (L' := [(3, .int (iI ((n : Int) + 1))), (2, .int (iI ((bbG (mw S 84) n).2))), (1, .int (iI ((n : Int)))), (5, .int (iI 0)), (4, .int (iI (fewF (brkF (mw S 84) (n : Int))))), (0, .ref (yA Y 82))]) rfl ?_
              refine g_goto (q := 11) B dX8_bestBreak_103 (by decide) ?_
              refine g_sub [5, 2, 1, 0] rfl ?_
              have b1 := bbG_s1 (mw S 84) n
              have b2 := bbG_s2 (mw S 84) n
              exact ih (n + 1) _ _ _ _ (by rw [b1]; split <;> omega) (by rw [b2]; split <;> omega) (by first | rfl | omega) (by first | assumption | omega) (by exact fz_s hf hfSy) (by rw [b1, b2]; split <;> omega) (by omega)
            · refine g_iload (q := 95) B dX8_bestBreak_93 rfl 2 rfl ?_
              refine g_goto (q := 99) B dX8_bestBreak_95 (by decide) ?_
              refine g_istore_n (q := 100) B dX8_bestBreak_99 rfl (by decide) (L' := [(2, .int (iI (fewF (brkF (mw S 84) (n : Int))))), (1, .int (iI ((n : Int)))), (5, .int (iI 0)), (4, .int (iI (fewF (brkF (mw S 84) (n : Int))))), (0, .ref (yA Y 82)), (3, .int (iI ((n : Int))))]) rfl ?_
              refine g_iinc (n := 5) (q := 103) B dX8_bestBreak_100 rfl rfl (by decide) (L' := [(3, .int (iI ((n : Int) + 1))), (2, .int (iI (fewF (brkF (mw S 84) (n : Int))))), (1, .int (iI ((n : Int)))), (5, .int (iI 0)), (4, .int (iI (fewF (brkF (mw S 84) (n : Int))))), (0, .ref (yA Y 82))]) rfl ?_
              refine g_goto (q := 11) B dX8_bestBreak_103 (by decide) ?_
              refine g_sub [5, 2, 1, 0] rfl ?_
              have b1 := bbG_s1 (mw S 84) n
              have b2 := bbG_s2 (mw S 84) n
              exact ih (n + 1) _ _ _ _ (by rw [b1]; split <;> omega) (by rw [b2]; split <;> omega) (by first | rfl | omega) (by first | assumption | omega) (by exact fz_s hf hfSy) (by rw [b1, b2]; split <;> omega) (by omega)
        · refine g_iload_n (q := 60) B dX8_bestBreak_59 rfl 2 rfl ?_
          refine g_iconst (q := 61) B dX8_bestBreak_60 rfl ?_
          refine g_icmp_eq (t := 70) (q := 64) B dX8_bestBreak_61 (by decide) rfl ⟨by omega, by omega⟩ ⟨by omega, by omega⟩ (fun cq61 => ?_) (fun cq61 => ?_)
          · refine g_iconst (q := 71) B dX8_bestBreak_70 rfl ?_
            refine g_goto (q := 75) B dX8_bestBreak_71 (by decide) ?_
            refine g_istore (q := 77) B dX8_bestBreak_75 rfl (by decide) (L' := [(5, .int (iI 1)), (4, .int (iI (fewF (brkF (mw S 84) (n : Int))))), (0, .ref (yA Y 82)), (1, .int (iI ((bbG (mw S 84) n).1))), (2, .int (iI ((bbG (mw S 84) n).2))), (3, .int (iI ((n : Int))))]) rfl ?_
            refine g_iload (q := 79) B dX8_bestBreak_77 rfl 0 rfl ?_
            refine g_if_eq (t := 86) (q := 82) B dX8_bestBreak_79 (by decide) rfl ⟨by omega, by omega⟩ (fun cq79 => ?_) (fun cq79 => ?_)
            · refine g_iload_n (q := 87) B dX8_bestBreak_86 rfl 3 rfl ?_
              refine g_istore_n (q := 88) B dX8_bestBreak_87 rfl (by decide) (L' := [(1, .int (iI ((bbG (mw S 84) n).1))), (5, .int (iI 1)), (4, .int (iI (fewF (brkF (mw S 84) (n : Int))))), (0, .ref (yA Y 82)), (2, .int (iI ((bbG (mw S 84) n).2))), (3, .int (iI ((n : Int))))]) rfl ?_
              refine g_iload (q := 90) B dX8_bestBreak_88 rfl 1 rfl ?_
              refine g_if_eq (t := 98) (q := 93) B dX8_bestBreak_90 (by decide) rfl ⟨by omega, by omega⟩ (fun cq90 => ?_) (fun cq90 => ?_)
              · refine g_iload_n (q := 99) B dX8_bestBreak_98 rfl 4 rfl ?_
                refine g_istore_n (q := 100) B dX8_bestBreak_99 rfl (by decide) (L' := [(2, .int (iI ((bbG (mw S 84) n).2))), (1, .int (iI ((bbG (mw S 84) n).1))), (5, .int (iI 1)), (4, .int (iI (fewF (brkF (mw S 84) (n : Int))))), (0, .ref (yA Y 82)), (3, .int (iI ((n : Int))))]) rfl ?_
                refine g_iinc (n := 5) (q := 103) B dX8_bestBreak_100 rfl rfl (by decide) (L' := [(3, .int (iI ((n : Int) + 1))), (2, .int (iI ((bbG (mw S 84) n).2))), (1, .int (iI ((bbG (mw S 84) n).1))), (5, .int (iI 1)), (4, .int (iI (fewF (brkF (mw S 84) (n : Int))))), (0, .ref (yA Y 82))]) rfl ?_
                refine g_goto (q := 11) B dX8_bestBreak_103 (by decide) ?_
                refine g_sub [5, 2, 1, 0] rfl ?_
                have b1 := bbG_s1 (mw S 84) n
                have b2 := bbG_s2 (mw S 84) n
                exact ih (n + 1) _ _ _ _ (by rw [b1]; split <;> omega) (by rw [b2]; split <;> omega) (by first | rfl | omega) (by first | assumption | omega) (by exact fz_s hf hfSy) (by rw [b1, b2]; split <;> omega) (by omega)
              · refine g_iload (q := 95) B dX8_bestBreak_93 rfl 2 rfl ?_
                refine g_goto (q := 99) B dX8_bestBreak_95 (by decide) ?_
                refine g_istore_n (q := 100) B dX8_bestBreak_99 rfl (by decide) (L' := [(2, .int (iI (fewF (brkF (mw S 84) (n : Int))))), (1, .int (iI ((bbG (mw S 84) n).1))), (5, .int (iI 1)), (4, .int (iI (fewF (brkF (mw S 84) (n : Int))))), (0, .ref (yA Y 82)), (3, .int (iI ((n : Int))))]) rfl ?_
                refine g_iinc (n := 5) (q := 103) B dX8_bestBreak_100 rfl rfl (by decide) (L' := [(3, .int (iI ((n : Int) + 1))), (2, .int (iI (fewF (brkF (mw S 84) (n : Int))))), (1, .int (iI ((bbG (mw S 84) n).1))), (5, .int (iI 1)), (4, .int (iI (fewF (brkF (mw S 84) (n : Int))))), (0, .ref (yA Y 82))]) rfl ?_
                refine g_goto (q := 11) B dX8_bestBreak_103 (by decide) ?_
                refine g_sub [5, 2, 1, 0] rfl ?_
                have b1 := bbG_s1 (mw S 84) n
                have b2 := bbG_s2 (mw S 84) n
                exact ih (n + 1) _ _ _ _ (by rw [b1]; split <;> omega) (by rw [b2]; split <;> omega) (by first | rfl | omega) (by first | assumption | omega) (by exact fz_s hf hfSy) (by rw [b1, b2]; split <;> omega) (by omega)
            · refine g_iload_n (q := 83) B dX8_bestBreak_82 rfl 5 rfl ?_
              refine g_goto (q := 87) B dX8_bestBreak_83 (by decide) ?_
              refine g_istore_n (q := 88) B dX8_bestBreak_87 rfl (by decide) (L' := [(1, .int (iI ((n : Int)))), (5, .int (iI 1)), (4, .int (iI (fewF (brkF (mw S 84) (n : Int))))), (0, .ref (yA Y 82)), (2, .int (iI ((bbG (mw S 84) n).2))), (3, .int (iI ((n : Int))))]) rfl ?_
              refine g_iload (q := 90) B dX8_bestBreak_88 rfl 1 rfl ?_
              refine g_if_eq (t := 98) (q := 93) B dX8_bestBreak_90 (by decide) rfl ⟨by omega, by omega⟩ (fun cq90 => ?_) (fun cq90 => ?_)
              · refine g_iload_n (q := 99) B dX8_bestBreak_98 rfl 4 rfl ?_
                refine g_istore_n (q := 100) B dX8_bestBreak_99 rfl (by decide) (L' := [(2, .int (iI ((bbG (mw S 84) n).2))), (1, .int (iI ((n : Int)))), (5, .int (iI 1)), (4, .int (iI (fewF (brkF (mw S 84) (n : Int))))), (0, .ref (yA Y 82)), (3, .int (iI ((n : Int))))]) rfl ?_
                refine g_iinc (n := 5) (q := 103) B dX8_bestBreak_100 rfl rfl (by decide) (L' := [(3, .int (iI ((n : Int) + 1))), (2, .int (iI ((bbG (mw S 84) n).2))), (1, .int (iI ((n : Int)))), (5, .int (iI 1)), (4, .int (iI (fewF (brkF (mw S 84) (n : Int))))), (0, .ref (yA Y 82))]) rfl ?_
                refine g_goto (q := 11) B dX8_bestBreak_103 (by decide) ?_
                refine g_sub [5, 2, 1, 0] rfl ?_
                have b1 := bbG_s1 (mw S 84) n
                have b2 := bbG_s2 (mw S 84) n
                exact ih (n + 1) _ _ _ _ (by rw [b1]; split <;> omega) (by rw [b2]; split <;> omega) (by first | rfl | omega) (by first | assumption | omega) (by exact fz_s hf hfSy) (by rw [b1, b2]; split <;> omega) (by omega)
              · refine g_iload (q := 95) B dX8_bestBreak_93 rfl 2 rfl ?_
                refine g_goto (q := 99) B dX8_bestBreak_95 (by decide) ?_
                refine g_istore_n (q := 100) B dX8_bestBreak_99 rfl (by decide) (L' := [(2, .int (iI (fewF (brkF (mw S 84) (n : Int))))), (1, .int (iI ((n : Int)))), (5, .int (iI 1)), (4, .int (iI (fewF (brkF (mw S 84) (n : Int))))), (0, .ref (yA Y 82)), (3, .int (iI ((n : Int))))]) rfl ?_
                refine g_iinc (n := 5) (q := 103) B dX8_bestBreak_100 rfl rfl (by decide) (L' := [(3, .int (iI ((n : Int) + 1))), (2, .int (iI (fewF (brkF (mw S 84) (n : Int))))), (1, .int (iI ((n : Int)))), (5, .int (iI 1)), (4, .int (iI (fewF (brkF (mw S 84) (n : Int))))), (0, .ref (yA Y 82))]) rfl ?_
                refine g_goto (q := 11) B dX8_bestBreak_103 (by decide) ?_
                refine g_sub [5, 2, 1, 0] rfl ?_
                have b1 := bbG_s1 (mw S 84) n
                have b2 := bbG_s2 (mw S 84) n
                exact ih (n + 1) _ _ _ _ (by rw [b1]; split <;> omega) (by rw [b2]; split <;> omega) (by first | rfl | omega) (by first | assumption | omega) (by exact fz_s hf hfSy) (by rw [b1, b2]; split <;> omega) (by omega)
          · refine g_iload (q := 66) B dX8_bestBreak_64 rfl 0 rfl ?_
            refine g_iload_n (q := 67) B dX8_bestBreak_66 rfl 3 rfl ?_
            refine g_icmp_ge (t := 74) (q := 70) B dX8_bestBreak_67 (by decide) rfl ⟨by omega, by omega⟩ ⟨by omega, by omega⟩ (fun cq67 => ?_) (fun cq67 => ?_)
            · refine g_iconst (q := 75) B dX8_bestBreak_74 rfl ?_
              refine g_istore (q := 77) B dX8_bestBreak_75 rfl (by decide) (L' := [(5, .int (iI 0)), (4, .int (iI (fewF (brkF (mw S 84) (n : Int))))), (0, .ref (yA Y 82)), (1, .int (iI ((bbG (mw S 84) n).1))), (2, .int (iI ((bbG (mw S 84) n).2))), (3, .int (iI ((n : Int))))]) rfl ?_
              refine g_iload (q := 79) B dX8_bestBreak_77 rfl 0 rfl ?_
              refine g_if_eq (t := 86) (q := 82) B dX8_bestBreak_79 (by decide) rfl ⟨by omega, by omega⟩ (fun cq79 => ?_) (fun cq79 => ?_)
              · refine g_iload_n (q := 87) B dX8_bestBreak_86 rfl 3 rfl ?_
                refine g_istore_n (q := 88) B dX8_bestBreak_87 rfl (by decide) (L' := [(1, .int (iI ((bbG (mw S 84) n).1))), (5, .int (iI 0)), (4, .int (iI (fewF (brkF (mw S 84) (n : Int))))), (0, .ref (yA Y 82)), (2, .int (iI ((bbG (mw S 84) n).2))), (3, .int (iI ((n : Int))))]) rfl ?_
                refine g_iload (q := 90) B dX8_bestBreak_88 rfl 1 rfl ?_
                refine g_if_eq (t := 98) (q := 93) B dX8_bestBreak_90 (by decide) rfl ⟨by omega, by omega⟩ (fun cq90 => ?_) (fun cq90 => ?_)
                · refine g_iload_n (q := 99) B dX8_bestBreak_98 rfl 4 rfl ?_
                  refine g_istore_n (q := 100) B dX8_bestBreak_99 rfl (by decide) (L' := [(2, .int (iI ((bbG (mw S 84) n).2))), (1, .int (iI ((bbG (mw S 84) n).1))), (5, .int (iI 0)), (4, .int (iI (fewF (brkF (mw S 84) (n : Int))))), (0, .ref (yA Y 82)), (3, .int (iI ((n : Int))))]) rfl ?_
                  refine g_iinc (n := 5) (q := 103) B dX8_bestBreak_100 rfl rfl (by decide) (L' := [(3, .int (iI ((n : Int) + 1))), (2, .int (iI ((bbG (mw S 84) n).2))), (1, .int (iI ((bbG (mw S 84) n).1))), (5, .int (iI 0)), (4, .int (iI (fewF (brkF (mw S 84) (n : Int))))), (0, .ref (yA Y 82))]) rfl ?_
                  refine g_goto (q := 11) B dX8_bestBreak_103 (by decide) ?_
                  refine g_sub [5, 2, 1, 0] rfl ?_
                  have b1 := bbG_s1 (mw S 84) n
                  have b2 := bbG_s2 (mw S 84) n
                  exact ih (n + 1) _ _ _ _ (by rw [b1]; split <;> omega) (by rw [b2]; split <;> omega) (by first | rfl | omega) (by first | assumption | omega) (by exact fz_s hf hfSy) (by rw [b1, b2]; split <;> omega) (by omega)
                · refine g_iload (q := 95) B dX8_bestBreak_93 rfl 2 rfl ?_
                  refine g_goto (q := 99) B dX8_bestBreak_95 (by decide) ?_
                  refine g_istore_n (q := 100) B dX8_bestBreak_99 rfl (by decide) (L' := [(2, .int (iI (fewF (brkF (mw S 84) (n : Int))))), (1, .int (iI ((bbG (mw S 84) n).1))), (5, .int (iI 0)), (4, .int (iI (fewF (brkF (mw S 84) (n : Int))))), (0, .ref (yA Y 82)), (3, .int (iI ((n : Int))))]) rfl ?_
                  refine g_iinc (n := 5) (q := 103) B dX8_bestBreak_100 rfl rfl (by decide) (L' := [(3, .int (iI ((n : Int) + 1))), (2, .int (iI (fewF (brkF (mw S 84) (n : Int))))), (1, .int (iI ((bbG (mw S 84) n).1))), (5, .int (iI 0)), (4, .int (iI (fewF (brkF (mw S 84) (n : Int))))), (0, .ref (yA Y 82))]) rfl ?_
                  refine g_goto (q := 11) B dX8_bestBreak_103 (by decide) ?_
                  refine g_sub [5, 2, 1, 0] rfl ?_
                  have b1 := bbG_s1 (mw S 84) n
                  have b2 := bbG_s2 (mw S 84) n
                  exact ih (n + 1) _ _ _ _ (by rw [b1]; split <;> omega) (by rw [b2]; split <;> omega) (by first | rfl | omega) (by first | assumption | omega) (by exact fz_s hf hfSy) (by rw [b1, b2]; split <;> omega) (by omega)
              · refine g_iload_n (q := 83) B dX8_bestBreak_82 rfl 5 rfl ?_
                refine g_goto (q := 87) B dX8_bestBreak_83 (by decide) ?_
                refine g_istore_n (q := 88) B dX8_bestBreak_87 rfl (by decide) (L' := [(1, .int (iI ((n : Int)))), (5, .int (iI 0)), (4, .int (iI (fewF (brkF (mw S 84) (n : Int))))), (0, .ref (yA Y 82)), (2, .int (iI ((bbG (mw S 84) n).2))), (3, .int (iI ((n : Int))))]) rfl ?_
                refine g_iload (q := 90) B dX8_bestBreak_88 rfl 1 rfl ?_
                refine g_if_eq (t := 98) (q := 93) B dX8_bestBreak_90 (by decide) rfl ⟨by omega, by omega⟩ (fun cq90 => ?_) (fun cq90 => ?_)
                · refine g_iload_n (q := 99) B dX8_bestBreak_98 rfl 4 rfl ?_
                  refine g_istore_n (q := 100) B dX8_bestBreak_99 rfl (by decide) (L' := [(2, .int (iI ((bbG (mw S 84) n).2))), (1, .int (iI ((n : Int)))), (5, .int (iI 0)), (4, .int (iI (fewF (brkF (mw S 84) (n : Int))))), (0, .ref (yA Y 82)), (3, .int (iI ((n : Int))))]) rfl ?_
                  refine g_iinc (n := 5) (q := 103) B dX8_bestBreak_100 rfl rfl (by decide) (L' := [(3, .int (iI ((n : Int) + 1))), (2, .int (iI ((bbG (mw S 84) n).2))), (1, .int (iI ((n : Int)))), (5, .int (iI 0)), (4, .int (iI (fewF (brkF (mw S 84) (n : Int))))), (0, .ref (yA Y 82))]) rfl ?_
                  refine g_goto (q := 11) B dX8_bestBreak_103 (by decide) ?_
                  refine g_sub [5, 2, 1, 0] rfl ?_
                  have b1 := bbG_s1 (mw S 84) n
                  have b2 := bbG_s2 (mw S 84) n
                  exact ih (n + 1) _ _ _ _ (by rw [b1]; split <;> omega) (by rw [b2]; split <;> omega) (by first | rfl | omega) (by first | assumption | omega) (by exact fz_s hf hfSy) (by rw [b1, b2]; split <;> omega) (by omega)
                · refine g_iload (q := 95) B dX8_bestBreak_93 rfl 2 rfl ?_
                  refine g_goto (q := 99) B dX8_bestBreak_95 (by decide) ?_
                  refine g_istore_n (q := 100) B dX8_bestBreak_99 rfl (by decide) (L' := [(2, .int (iI (fewF (brkF (mw S 84) (n : Int))))), (1, .int (iI ((n : Int)))), (5, .int (iI 0)), (4, .int (iI (fewF (brkF (mw S 84) (n : Int))))), (0, .ref (yA Y 82)), (3, .int (iI ((n : Int))))]) rfl ?_
                  refine g_iinc (n := 5) (q := 103) B dX8_bestBreak_100 rfl rfl (by decide) (L' := [(3, .int (iI ((n : Int) + 1))), (2, .int (iI (fewF (brkF (mw S 84) (n : Int))))), (1, .int (iI ((n : Int)))), (5, .int (iI 0)), (4, .int (iI (fewF (brkF (mw S 84) (n : Int))))), (0, .ref (yA Y 82))]) rfl ?_
                  refine g_goto (q := 11) B dX8_bestBreak_103 (by decide) ?_
                  refine g_sub [5, 2, 1, 0] rfl ?_
                  have b1 := bbG_s1 (mw S 84) n
                  have b2 := bbG_s2 (mw S 84) n
                  exact ih (n + 1) _ _ _ _ (by rw [b1]; split <;> omega) (by rw [b2]; split <;> omega) (by first | rfl | omega) (by first | assumption | omega) (by exact fz_s hf hfSy) (by rw [b1, b2]; split <;> omega) (by omega)
            · refine g_iconst (q := 71) B dX8_bestBreak_70 rfl ?_
              refine g_goto (q := 75) B dX8_bestBreak_71 (by decide) ?_
              refine g_istore (q := 77) B dX8_bestBreak_75 rfl (by decide) (L' := [(5, .int (iI 1)), (4, .int (iI (fewF (brkF (mw S 84) (n : Int))))), (0, .ref (yA Y 82)), (1, .int (iI ((bbG (mw S 84) n).1))), (2, .int (iI ((bbG (mw S 84) n).2))), (3, .int (iI ((n : Int))))]) rfl ?_
              refine g_iload (q := 79) B dX8_bestBreak_77 rfl 0 rfl ?_
              refine g_if_eq (t := 86) (q := 82) B dX8_bestBreak_79 (by decide) rfl ⟨by omega, by omega⟩ (fun cq79 => ?_) (fun cq79 => ?_)
              · refine g_iload_n (q := 87) B dX8_bestBreak_86 rfl 3 rfl ?_
                refine g_istore_n (q := 88) B dX8_bestBreak_87 rfl (by decide) (L' := [(1, .int (iI ((bbG (mw S 84) n).1))), (5, .int (iI 1)), (4, .int (iI (fewF (brkF (mw S 84) (n : Int))))), (0, .ref (yA Y 82)), (2, .int (iI ((bbG (mw S 84) n).2))), (3, .int (iI ((n : Int))))]) rfl ?_
                refine g_iload (q := 90) B dX8_bestBreak_88 rfl 1 rfl ?_
                refine g_if_eq (t := 98) (q := 93) B dX8_bestBreak_90 (by decide) rfl ⟨by omega, by omega⟩ (fun cq90 => ?_) (fun cq90 => ?_)
                · refine g_iload_n (q := 99) B dX8_bestBreak_98 rfl 4 rfl ?_
                  refine g_istore_n (q := 100) B dX8_bestBreak_99 rfl (by decide) (L' := [(2, .int (iI ((bbG (mw S 84) n).2))), (1, .int (iI ((bbG (mw S 84) n).1))), (5, .int (iI 1)), (4, .int (iI (fewF (brkF (mw S 84) (n : Int))))), (0, .ref (yA Y 82)), (3, .int (iI ((n : Int))))]) rfl ?_
                  refine g_iinc (n := 5) (q := 103) B dX8_bestBreak_100 rfl rfl (by decide) (L' := [(3, .int (iI ((n : Int) + 1))), (2, .int (iI ((bbG (mw S 84) n).2))), (1, .int (iI ((bbG (mw S 84) n).1))), (5, .int (iI 1)), (4, .int (iI (fewF (brkF (mw S 84) (n : Int))))), (0, .ref (yA Y 82))]) rfl ?_
                  refine g_goto (q := 11) B dX8_bestBreak_103 (by decide) ?_
                  refine g_sub [5, 2, 1, 0] rfl ?_
                  have b1 := bbG_s1 (mw S 84) n
                  have b2 := bbG_s2 (mw S 84) n
                  exact ih (n + 1) _ _ _ _ (by rw [b1]; split <;> omega) (by rw [b2]; split <;> omega) (by first | rfl | omega) (by first | assumption | omega) (by exact fz_s hf hfSy) (by rw [b1, b2]; split <;> omega) (by omega)
                · refine g_iload (q := 95) B dX8_bestBreak_93 rfl 2 rfl ?_
                  refine g_goto (q := 99) B dX8_bestBreak_95 (by decide) ?_
                  refine g_istore_n (q := 100) B dX8_bestBreak_99 rfl (by decide) (L' := [(2, .int (iI (fewF (brkF (mw S 84) (n : Int))))), (1, .int (iI ((bbG (mw S 84) n).1))), (5, .int (iI 1)), (4, .int (iI (fewF (brkF (mw S 84) (n : Int))))), (0, .ref (yA Y 82)), (3, .int (iI ((n : Int))))]) rfl ?_
                  refine g_iinc (n := 5) (q := 103) B dX8_bestBreak_100 rfl rfl (by decide) (L' := [(3, .int (iI ((n : Int) + 1))), (2, .int (iI (fewF (brkF (mw S 84) (n : Int))))), (1, .int (iI ((bbG (mw S 84) n).1))), (5, .int (iI 1)), (4, .int (iI (fewF (brkF (mw S 84) (n : Int))))), (0, .ref (yA Y 82))]) rfl ?_
                  refine g_goto (q := 11) B dX8_bestBreak_103 (by decide) ?_
                  refine g_sub [5, 2, 1, 0] rfl ?_
                  have b1 := bbG_s1 (mw S 84) n
                  have b2 := bbG_s2 (mw S 84) n
                  exact ih (n + 1) _ _ _ _ (by rw [b1]; split <;> omega) (by rw [b2]; split <;> omega) (by first | rfl | omega) (by first | assumption | omega) (by exact fz_s hf hfSy) (by rw [b1, b2]; split <;> omega) (by omega)
              · refine g_iload_n (q := 83) B dX8_bestBreak_82 rfl 5 rfl ?_
                refine g_goto (q := 87) B dX8_bestBreak_83 (by decide) ?_
                refine g_istore_n (q := 88) B dX8_bestBreak_87 rfl (by decide) (L' := [(1, .int (iI ((n : Int)))), (5, .int (iI 1)), (4, .int (iI (fewF (brkF (mw S 84) (n : Int))))), (0, .ref (yA Y 82)), (2, .int (iI ((bbG (mw S 84) n).2))), (3, .int (iI ((n : Int))))]) rfl ?_
                refine g_iload (q := 90) B dX8_bestBreak_88 rfl 1 rfl ?_
                refine g_if_eq (t := 98) (q := 93) B dX8_bestBreak_90 (by decide) rfl ⟨by omega, by omega⟩ (fun cq90 => ?_) (fun cq90 => ?_)
                · refine g_iload_n (q := 99) B dX8_bestBreak_98 rfl 4 rfl ?_
                  refine g_istore_n (q := 100) B dX8_bestBreak_99 rfl (by decide) (L' := [(2, .int (iI ((bbG (mw S 84) n).2))), (1, .int (iI ((n : Int)))), (5, .int (iI 1)), (4, .int (iI (fewF (brkF (mw S 84) (n : Int))))), (0, .ref (yA Y 82)), (3, .int (iI ((n : Int))))]) rfl ?_
                  refine g_iinc (n := 5) (q := 103) B dX8_bestBreak_100 rfl rfl (by decide) (L' := [(3, .int (iI ((n : Int) + 1))), (2, .int (iI ((bbG (mw S 84) n).2))), (1, .int (iI ((n : Int)))), (5, .int (iI 1)), (4, .int (iI (fewF (brkF (mw S 84) (n : Int))))), (0, .ref (yA Y 82))]) rfl ?_
                  refine g_goto (q := 11) B dX8_bestBreak_103 (by decide) ?_
                  refine g_sub [5, 2, 1, 0] rfl ?_
                  have b1 := bbG_s1 (mw S 84) n
                  have b2 := bbG_s2 (mw S 84) n
                  exact ih (n + 1) _ _ _ _ (by rw [b1]; split <;> omega) (by rw [b2]; split <;> omega) (by first | rfl | omega) (by first | assumption | omega) (by exact fz_s hf hfSy) (by rw [b1, b2]; split <;> omega) (by omega)
                · refine g_iload (q := 95) B dX8_bestBreak_93 rfl 2 rfl ?_
                  refine g_goto (q := 99) B dX8_bestBreak_95 (by decide) ?_
                  refine g_istore_n (q := 100) B dX8_bestBreak_99 rfl (by decide) (L' := [(2, .int (iI (fewF (brkF (mw S 84) (n : Int))))), (1, .int (iI ((n : Int)))), (5, .int (iI 1)), (4, .int (iI (fewF (brkF (mw S 84) (n : Int))))), (0, .ref (yA Y 82)), (3, .int (iI ((n : Int))))]) rfl ?_
                  refine g_iinc (n := 5) (q := 103) B dX8_bestBreak_100 rfl rfl (by decide) (L' := [(3, .int (iI ((n : Int) + 1))), (2, .int (iI (fewF (brkF (mw S 84) (n : Int))))), (1, .int (iI ((n : Int)))), (5, .int (iI 1)), (4, .int (iI (fewF (brkF (mw S 84) (n : Int))))), (0, .ref (yA Y 82))]) rfl ?_
                  refine g_goto (q := 11) B dX8_bestBreak_103 (by decide) ?_
                  refine g_sub [5, 2, 1, 0] rfl ?_
                  have b1 := bbG_s1 (mw S 84) n
                  have b2 := bbG_s2 (mw S 84) n
                  exact ih (n + 1) _ _ _ _ (by rw [b1]; split <;> omega) (by rw [b2]; split <;> omega) (by first | rfl | omega) (by first | assumption | omega) (by exact fz_s hf hfSy) (by rw [b1, b2]; split <;> omega) (by omega)
  refine g_aload_n (q := 1) B dX8_bestBreak_0 rfl 0 rfl ?_
  refine g_iconst (q := 2) B dX8_bestBreak_1 rfl ?_
  refine g_put (n := 82) (ty := tyX8) (q := 5) B dX8_bestBreak_2 rfl rfl rfl cls6 0 (by decide) w951 rfl rfl rfl (Nat.le_of_ble_eq_true rfl) ((uq (S 82) 0 0)) rfl ?_
  refine g_iconst (q := 6) B dX8_bestBreak_5 rfl ?_
  refine g_istore_n (q := 7) B dX8_bestBreak_6 rfl (by decide) (L' := [(1, .int (iI (-1))), (0, .ref (yA Y 82))]) rfl ?_
  refine g_iconst (q := 8) B dX8_bestBreak_7 rfl ?_
  refine g_istore_n (q := 9) B dX8_bestBreak_8 rfl (by decide) (L' := [(2, .int (iI 0)), (1, .int (iI (-1))), (0, .ref (yA Y 82))]) rfl ?_
  refine g_iconst (q := 10) B dX8_bestBreak_9 rfl ?_
  refine g_istore_n (q := 11) B dX8_bestBreak_10 rfl (by decide) (L' := [(3, .int (iI 0)), (2, .int (iI 0)), (1, .int (iI (-1))), (0, .ref (yA Y 82))]) rfl ?_
  refine g_sub [3, 2, 1, 0] rfl ?_
  exact lp11 _ 0 _ _ _ _ (by first | rfl | omega) (by first | rfl | omega) (by first | rfl | omega) (by first | assumption | omega) (by exact fz_n) (by exact ⟨⟨(by decide : (-1 : Int) ≤ -1), (by decide : (-1 : Int) < 0)⟩, (by decide : (0 : Int) ≤ 0), (by decide : (0 : Int) ≤ 6)⟩) (Nat.lt_succ_self _)
set_option maxHeartbeats 4000000 in
theorem c_X8_undo {Y : gY} {l : Launch} {S : SS} (ha : 0 ≤ S 82 2 ∧ S 82 2 ≤ 14) : gM Y l mX8_undo S [.ref (yA Y 82)] (pU S (cd_undo (S 82 2)) (S 82 2 - 1) (unU S)) := by
  refine gM_of (by decide) (Nat.le_of_ble_eq_true rfl) ?_
  intro X hXl B E
  show gW Y X S 0 [(0, .ref (yA Y 82))] []
  refine g_aload_n (q := 1) B dX8_undo_0 rfl 0 rfl ?_
  refine g_aload_n (q := 2) B dX8_undo_1 rfl 0 rfl ?_
  refine g_get (n := 82) (ty := tyX8) (q := 5) (v := .int (iI (S 82 2))) B dX8_undo_2 rfl rfl rfl cls6 6 (by decide) w957 rfl ?_
  refine g_if_ne (t := 12) (q := 8) B dX8_undo_5 (by decide) rfl ⟨by omega, by omega⟩ (fun cq5 => ?_) (fun cq5 => ?_)
  · refine g_iconst (q := 13) B dX8_undo_12 rfl ?_
    refine g_callV (n := 82) (ty := tyX8) (q := 16) (As := [.int (iI 0)]) (st := []) B dX8_undo_13 rfl (c_X8_refused (l := xL X) (S := S) 0 ⟨by omega, by omega⟩) eX8_refused w1004 (by decide) rfl rfl cls6 rfl rfl (Nat.le_of_ble_eq_true rfl) (g_kE ?_)
    refine g_ifb_eq (t := 21) (q := 19) B dX8_undo_16 (by decide) rfl (fun cq16 => ?_) (fun cq16 => ?_)
    · refine g_aload_n (q := 22) B dX8_undo_21 rfl 0 rfl ?_
      refine g_dup (q := 23) B dX8_undo_22 rfl rfl ?_
      refine g_get (n := 82) (ty := tyX8) (q := 26) (v := .int (iI (S 82 2))) B dX8_undo_23 rfl (us_eq _ _ _) rfl cls6 6 (by decide) w957 rfl ?_
      refine g_iconst (q := 27) B dX8_undo_26 rfl ?_
      refine g_isub (q := 28) B dX8_undo_27 rfl ?_
      refine g_put (n := 82) (ty := tyX8) (q := 31) B dX8_undo_28 rfl (us_eq _ _ _) rfl cls6 6 (by decide) w957 rfl rfl rfl (Nat.le_of_ble_eq_true rfl) ((uq ((uq (S 82) 0 0)) 2 ((S 82 2) - 1))) rfl ?_
      refine g_eqS (us_us _ _ _ _) ?_
      refine g_aload_n (q := 32) B dX8_undo_31 rfl 0 rfl ?_
      refine g_get (n := 82) (ty := tyX8) (q := 35) (v := .ref (yA Y 86)) B dX8_undo_32 rfl (us_eq _ _ _) rfl cls6 5 (by decide) w956 rfl ?_
      refine g_bipush (q := 37) B dX8_undo_35 rfl (by decide) ?_
      refine g_aload_n (q := 38) B dX8_undo_37 rfl 0 rfl ?_
      refine g_get (n := 82) (ty := tyX8) (q := 41) (v := .int (iI ((S 82 2) - 1))) B dX8_undo_38 rfl (us_eq _ _ _) rfl cls6 6 (by decide) w957 rfl ?_
      refine g_imul (q := 42) B dX8_undo_41 rfl ?_
      refine g_aload_n (q := 43) B dX8_undo_42 rfl 0 rfl ?_
      refine g_get (n := 82) (ty := tyX8) (q := 46) (v := .ref (yA Y 84)) B dX8_undo_43 rfl (us_eq _ _ _) rfl cls6 3 (by decide) w954 rfl ?_
      refine g_iconst (q := 47) B dX8_undo_46 rfl ?_
      refine g_callS (q := 50) (As := [.ref (yA Y 86), .int (iI (54 * ((S 82 2) - 1))), .ref (yA Y 84), .int (iI 0)]) (st := []) B dX8_undo_47 rfl (c_X8_copyState (l := xL X) (S := (us S 82 ((uq ((uq (S 82) 0 0)) 2 ((S 82 2) - 1))))) (Or.inr (Or.inr (Or.inl ⟨rfl, rfl⟩))) (Or.inl ⟨rfl, rfl⟩) (by decide) (54 * ((S 82 2) - 1)) 0 (by omega) (by omega) (by omega) (by omega)) eX8_copyState w1105 (by decide) rfl rfl (Nat.le_of_ble_eq_true rfl) (g_0E ?_)
      refine g_aload_n (q := 51) B dX8_undo_50 rfl 0 rfl ?_
      refine g_get (n := 82) (ty := tyX8) (q := 54) (v := .int (iI ((S 82 2) - 1))) B dX8_undo_51 rfl ((us_ne _ _ (by omega)).trans (us_eq _ _ _)) rfl cls6 6 (by decide) w957 rfl ?_
      refine g_iret B E dX8_undo_54 ?_
      exact pU_0 (by rw [cd_undo]; (repeat' split) <;> omega) (rfl) (us_comm S _ _ (by decide))
    · exact absurd cq16 (by decide)
  · refine g_iconst (q := 9) B dX8_undo_8 rfl ?_
    refine g_goto (q := 13) B dX8_undo_9 (by decide) ?_
    refine g_callV (n := 82) (ty := tyX8) (q := 16) (As := [.int (iI 1)]) (st := []) B dX8_undo_13 rfl (c_X8_refused (l := xL X) (S := S) 1 ⟨by omega, by omega⟩) eX8_refused w1004 (by decide) rfl rfl cls6 rfl rfl (Nat.le_of_ble_eq_true rfl) (g_kE ?_)
    refine g_ifb_eq (t := 21) (q := 19) B dX8_undo_16 (by decide) rfl (fun cq16 => ?_) (fun cq16 => ?_)
    · exact absurd cq16 (by decide)
    · refine g_iconst (q := 20) B dX8_undo_19 rfl ?_
      refine g_iret B E dX8_undo_20 ?_
      exact pU_n 1 (by rw [cd_undo]; (repeat' split) <;> omega) (by decide)
set_option maxHeartbeats 4000000 in
theorem c_X8_save {Y : gY} {l : Launch} {S : SS} (s : Int) (hs : rI s) : gM Y l mX8_save S [.ref (yA Y 82), .int (iI s)] (pU S (cd_01 s) (S 84 0) (saU S s)) := by
  refine gM_of (by decide) (Nat.le_of_ble_eq_true rfl) ?_
  intro X hXl B E
  obtain ⟨hs0, hs1⟩ := hs
  show gW Y X S 0 [(0, .ref (yA Y 82)), (1, .int (iI s))] []
  refine g_aload_n (q := 1) B dX8_save_0 rfl 0 rfl ?_
  refine g_iload_n (q := 2) B dX8_save_1 rfl 1 rfl ?_
  refine g_i2l (q := 3) B dX8_save_2 rfl ⟨by omega, by omega⟩ ?_
  refine g_lconst (z := 0) (q := 4) B dX8_save_3 rfl rfl ?_
  refine g_lconst (z := 1) (q := 5) B dX8_save_4 rfl rfl ?_
  refine g_callS (q := 8) (As := [.long (lI s), .long (lI 0), .long (lI 1)]) (st := [.ref (yA Y 82)]) B dX8_save_5 rfl (c_X8_in (l := xL X) (S := S) s 0 1 ⟨by omega, by omega⟩ ⟨by omega, by omega⟩ ⟨by omega, by omega⟩) eX8_in w1001 (by decide) rfl rfl (Nat.le_of_ble_eq_true rfl) (g_kE ?_)
  refine g_ifb_eq (t := 15) (q := 11) B dX8_save_8 (by decide) rfl (fun cq8 => ?_) (fun cq8 => ?_)
  · refine g_iconst (q := 16) B dX8_save_15 rfl ?_
    refine g_callV (n := 82) (ty := tyX8) (q := 19) (As := [.int (iI 1)]) (st := []) B dX8_save_16 rfl (c_X8_refused (l := xL X) (S := S) 1 ⟨by omega, by omega⟩) eX8_refused w1004 (by decide) rfl rfl cls6 rfl rfl (Nat.le_of_ble_eq_true rfl) (g_kE ?_)
    refine g_ifb_eq (t := 24) (q := 22) B dX8_save_19 (by decide) rfl (fun cq19 => ?_) (fun cq19 => ?_)
    · exact absurd cq19 (by decide)
    · refine g_iconst (q := 23) B dX8_save_22 rfl ?_
      refine g_iret B E dX8_save_23 ?_
      exact pU_n 1 (by rw [cd_01]; (repeat' split) <;> omega) (by decide)
  · refine g_iconst (q := 12) B dX8_save_11 rfl ?_
    refine g_goto (q := 16) B dX8_save_12 (by decide) ?_
    refine g_callV (n := 82) (ty := tyX8) (q := 19) (As := [.int (iI 0)]) (st := []) B dX8_save_16 rfl (c_X8_refused (l := xL X) (S := S) 0 ⟨by omega, by omega⟩) eX8_refused w1004 (by decide) rfl rfl cls6 rfl rfl (Nat.le_of_ble_eq_true rfl) (g_kE ?_)
    refine g_ifb_eq (t := 24) (q := 22) B dX8_save_19 (by decide) rfl (fun cq19 => ?_) (fun cq19 => ?_)
    · refine g_aload_n (q := 25) B dX8_save_24 rfl 0 rfl ?_
      refine g_get (n := 82) (ty := tyX8) (q := 28) (v := .ref (yA Y 84)) B dX8_save_25 rfl (us_eq _ _ _) rfl cls6 3 (by decide) w954 rfl ?_
      refine g_iconst (q := 29) B dX8_save_28 rfl ?_
      refine g_aload_n (q := 30) B dX8_save_29 rfl 0 rfl ?_
      refine g_get (n := 82) (ty := tyX8) (q := 33) (v := .ref (yA Y 87)) B dX8_save_30 rfl (us_eq _ _ _) rfl cls6 7 (by decide) w958 rfl ?_
      refine g_bipush (q := 35) B dX8_save_33 rfl (by decide) ?_
      refine g_iload_n (q := 36) B dX8_save_35 rfl 1 rfl ?_
      refine g_imul (q := 37) B dX8_save_36 rfl ?_
      refine g_callS (q := 40) (As := [.ref (yA Y 84), .int (iI 0), .ref (yA Y 87), .int (iI (54 * s))]) (st := []) B dX8_save_37 rfl (c_X8_copyState (l := xL X) (S := (us S 82 ((uq (S 82) 0 0)))) (Or.inl ⟨rfl, rfl⟩) (Or.inr (Or.inr (Or.inr ⟨rfl, rfl⟩))) (by decide) 0 (54 * s) (by omega) (by omega) (by omega) (by omega)) eX8_copyState w1105 (by decide) rfl rfl (Nat.le_of_ble_eq_true rfl) (g_0E ?_)
      refine g_aload_n (q := 41) B dX8_save_40 rfl 0 rfl ?_
      refine g_get (n := 82) (ty := tyX8) (q := 44) (v := .ref (yA Y 88)) B dX8_save_41 rfl ((us_ne _ _ (by omega)).trans (us_eq _ _ _)) rfl cls6 8 (by decide) w959 rfl ?_
      refine g_iload_n (q := 45) B dX8_save_44 rfl 1 rfl ?_
      refine g_iconst (q := 46) B dX8_save_45 rfl ?_
      refine g_zast (n := 88) (q := 47) B dX8_save_46 rfl ((us_ne _ _ (by omega)).trans ((us_ne _ _ (by omega)).trans rfl)) (fun _ => rfl) (by decide) (by omega) (by omega) (by decide) ?_
      refine g_aload_n (q := 48) B dX8_save_47 rfl 0 rfl ?_
      refine g_get (n := 82) (ty := tyX8) (q := 51) (v := .ref (yA Y 84)) B dX8_save_48 rfl ((us_ne _ _ (by omega)).trans ((us_ne _ _ (by omega)).trans (us_eq _ _ _))) rfl cls6 3 (by decide) w954 rfl ?_
      refine g_iconst (q := 52) B dX8_save_51 rfl ?_
      refine g_iald (n := 84) (q := 53) B dX8_save_52 rfl ((us_ne _ _ (by omega)).trans ((us_ne _ _ (by omega)).trans ((us_ne _ _ (by omega)).trans rfl))) rfl (by decide) (by omega) (by omega) ?_
      refine g_iret B E dX8_save_53 ?_
      exact pU_0 (by rw [cd_01]; (repeat' split) <;> omega) (rfl) (rfl)
    · exact absurd cq19 (by decide)
set_option maxHeartbeats 4000000 in
theorem c_X8_restore {Y : gY} {l : Launch} {S : SS} (s : Int) (hs : rI s) (hz : 0 ≤ s → s ≤ 1 → 0 ≤ S 88 s ∧ S 88 s ≤ 1) : gM Y l mX8_restore S [.ref (yA Y 82), .int (iI s)] (pU S (cd_rest s (S 88 s)) (S 87 (54 * s)) (reU S s)) := by
  refine gM_of (by decide) (Nat.le_of_ble_eq_true rfl) ?_
  intro X hXl B E
  obtain ⟨hs0, hs1⟩ := hs
  show gW Y X S 0 [(0, .ref (yA Y 82)), (1, .int (iI s))] []
  refine g_aload_n (q := 1) B dX8_restore_0 rfl 0 rfl ?_
  refine g_iload_n (q := 2) B dX8_restore_1 rfl 1 rfl ?_
  refine g_i2l (q := 3) B dX8_restore_2 rfl ⟨by omega, by omega⟩ ?_
  refine g_lconst (z := 0) (q := 4) B dX8_restore_3 rfl rfl ?_
  refine g_lconst (z := 1) (q := 5) B dX8_restore_4 rfl rfl ?_
  refine g_callS (q := 8) (As := [.long (lI s), .long (lI 0), .long (lI 1)]) (st := [.ref (yA Y 82)]) B dX8_restore_5 rfl (c_X8_in (l := xL X) (S := S) s 0 1 ⟨by omega, by omega⟩ ⟨by omega, by omega⟩ ⟨by omega, by omega⟩) eX8_in w1001 (by decide) rfl rfl (Nat.le_of_ble_eq_true rfl) (g_kE ?_)
  refine g_ifb_ne (t := 15) (q := 11) B dX8_restore_8 (by decide) rfl (fun cq8 => ?_) (fun cq8 => ?_)
  · refine g_aload_n (q := 16) B dX8_restore_15 rfl 0 rfl ?_
    refine g_get (n := 82) (ty := tyX8) (q := 19) (v := .ref (yA Y 88)) B dX8_restore_16 rfl rfl rfl cls6 8 (by decide) w959 rfl ?_
    refine g_iload_n (q := 20) B dX8_restore_19 rfl 1 rfl ?_
    refine g_zald (n := 88) (q := 21) B dX8_restore_20 rfl rfl rfl (by decide) (by omega) (by omega) ?_
    refine g_if_ne (t := 28) (q := 24) B dX8_restore_21 (by decide) rfl ⟨by omega, by omega⟩ (fun cq21 => ?_) (fun cq21 => ?_)
    · refine g_iconst (q := 29) B dX8_restore_28 rfl ?_
      refine g_callV (n := 82) (ty := tyX8) (q := 32) (As := [.int (iI 0)]) (st := []) B dX8_restore_29 rfl (c_X8_refused (l := xL X) (S := S) 0 ⟨by omega, by omega⟩) eX8_refused w1004 (by decide) rfl rfl cls6 rfl rfl (Nat.le_of_ble_eq_true rfl) (g_kE ?_)
      refine g_ifb_eq (t := 37) (q := 35) B dX8_restore_32 (by decide) rfl (fun cq32 => ?_) (fun cq32 => ?_)
      · refine g_aload_n (q := 38) B dX8_restore_37 rfl 0 rfl ?_
        refine g_get (n := 82) (ty := tyX8) (q := 41) (v := .ref (yA Y 87)) B dX8_restore_38 rfl (us_eq _ _ _) rfl cls6 7 (by decide) w958 rfl ?_
        refine g_bipush (q := 43) B dX8_restore_41 rfl (by decide) ?_
        refine g_iload_n (q := 44) B dX8_restore_43 rfl 1 rfl ?_
        refine g_imul (q := 45) B dX8_restore_44 rfl ?_
        refine g_aload_n (q := 46) B dX8_restore_45 rfl 0 rfl ?_
        refine g_get (n := 82) (ty := tyX8) (q := 49) (v := .ref (yA Y 84)) B dX8_restore_46 rfl (us_eq _ _ _) rfl cls6 3 (by decide) w954 rfl ?_
        refine g_iconst (q := 50) B dX8_restore_49 rfl ?_
        refine g_callS (q := 53) (As := [.ref (yA Y 87), .int (iI (54 * s)), .ref (yA Y 84), .int (iI 0)]) (st := []) B dX8_restore_50 rfl (c_X8_copyState (l := xL X) (S := (us S 82 ((uq (S 82) 0 0)))) (Or.inr (Or.inr (Or.inr ⟨rfl, rfl⟩))) (Or.inl ⟨rfl, rfl⟩) (by decide) (54 * s) 0 (by omega) (by omega) (by omega) (by omega)) eX8_copyState w1105 (by decide) rfl rfl (Nat.le_of_ble_eq_true rfl) (g_0E ?_)
        refine g_aload_n (q := 54) B dX8_restore_53 rfl 0 rfl ?_
        refine g_iconst (q := 55) B dX8_restore_54 rfl ?_
        refine g_put (n := 82) (ty := tyX8) (q := 58) B dX8_restore_55 rfl ((us_ne _ _ (by omega)).trans (us_eq _ _ _)) rfl cls6 6 (by decide) w957 rfl rfl rfl (Nat.le_of_ble_eq_true rfl) ((uq ((uq (S 82) 0 0)) 2 0)) rfl ?_
        refine g_aload_n (q := 59) B dX8_restore_58 rfl 0 rfl ?_
        refine g_get (n := 82) (ty := tyX8) (q := 62) (v := .ref (yA Y 84)) B dX8_restore_59 rfl (us_eq _ _ _) rfl cls6 3 (by decide) w954 rfl ?_
        refine g_iconst (q := 63) B dX8_restore_62 rfl ?_
        refine g_iald (n := 84) (q := 64) B dX8_restore_63 rfl ((us_ne _ _ (by omega)).trans (us_eq _ _ _)) rfl (by decide) (by omega) (by omega) ?_
        refine g_iret B E dX8_restore_64 ?_
        exact pU_0 (by rw [cd_rest]; (repeat' split) <;> omega) (by rw [cpF, if_pos (by omega)]; exact congrArg _ (by omega)) ((congrArg (fun Z => us Z 82 _) (us_comm S _ _ (show 82 ≠ 84 by decide))).trans (us_us _ _ _ _))
      · exact absurd cq32 (by decide)
    · refine g_iconst (q := 25) B dX8_restore_24 rfl ?_
      refine g_goto (q := 29) B dX8_restore_25 (by decide) ?_
      refine g_callV (n := 82) (ty := tyX8) (q := 32) (As := [.int (iI 2)]) (st := []) B dX8_restore_29 rfl (c_X8_refused (l := xL X) (S := S) 2 ⟨by omega, by omega⟩) eX8_refused w1004 (by decide) rfl rfl cls6 rfl rfl (Nat.le_of_ble_eq_true rfl) (g_kE ?_)
      refine g_ifb_eq (t := 37) (q := 35) B dX8_restore_32 (by decide) rfl (fun cq32 => ?_) (fun cq32 => ?_)
      · exact absurd cq32 (by decide)
      · refine g_iconst (q := 36) B dX8_restore_35 rfl ?_
        refine g_iret B E dX8_restore_36 ?_
        exact pU_n 2 (by rw [cd_rest]; (repeat' split) <;> omega) (by decide)
  · refine g_iconst (q := 12) B dX8_restore_11 rfl ?_
    refine g_goto (q := 29) B dX8_restore_12 (by decide) ?_
    refine g_callV (n := 82) (ty := tyX8) (q := 32) (As := [.int (iI 1)]) (st := []) B dX8_restore_29 rfl (c_X8_refused (l := xL X) (S := S) 1 ⟨by omega, by omega⟩) eX8_refused w1004 (by decide) rfl rfl cls6 rfl rfl (Nat.le_of_ble_eq_true rfl) (g_kE ?_)
    refine g_ifb_eq (t := 37) (q := 35) B dX8_restore_32 (by decide) rfl (fun cq32 => ?_) (fun cq32 => ?_)
    · exact absurd cq32 (by decide)
    · refine g_iconst (q := 36) B dX8_restore_35 rfl ?_
      refine g_iret B E dX8_restore_36 ?_
      exact pU_n 1 (by rw [cd_rest]; (repeat' split) <;> omega) (by decide)
