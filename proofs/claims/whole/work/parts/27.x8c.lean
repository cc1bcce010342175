set_option maxHeartbeats 4000000 in
theorem c_X8_clearText {Y : gY} {l : Launch} {S : SS}  : gM Y l mX8_clearText S [.ref (yA Y 82)] (pV (.int (iI (S 82 1))) (fun S' => S' = us S 82 (uq (uq (S 82) 0 0) 1 0))) := by
  refine gM_of (by decide) (Nat.le_of_ble_eq_true rfl) ?_
  intro X hXl B E
  show gW Y X S 0 [(0, .ref (yA Y 82))] []
  refine g_aload_n (q := 1) B dX8_clearText_0 rfl 0 rfl ?_
  refine g_iconst (q := 2) B dX8_clearText_1 rfl ?_
  refine g_put (n := 82) (ty := tyX8) (q := 5) B dX8_clearText_2 rfl rfl rfl cls6 0 (by decide) w951 rfl rfl rfl (Nat.le_of_ble_eq_true rfl) ((uq (S 82) 0 0)) rfl ?_
  refine g_aload_n (q := 6) B dX8_clearText_5 rfl 0 rfl ?_
  refine g_get (n := 82) (ty := tyX8) (q := 9) (v := .int (iI (S 82 1))) B dX8_clearText_6 rfl (us_eq _ _ _) rfl cls6 2 (by decide) w953 rfl ?_
  refine g_istore_n (q := 10) B dX8_clearText_9 rfl (by decide) (L' := [(1, .int (iI (S 82 1))), (0, .ref (yA Y 82))]) rfl ?_
  refine g_aload_n (q := 11) B dX8_clearText_10 rfl 1 rfl ?_
  refine g_iconst (q := 12) B dX8_clearText_11 rfl ?_
  refine g_put (n := 82) (ty := tyX8) (q := 15) B dX8_clearText_12 rfl (us_eq _ _ _) rfl cls6 2 (by decide) w953 rfl rfl rfl (Nat.le_of_ble_eq_true rfl) ((uq ((uq (S 82) 0 0)) 1 0)) rfl ?_
  refine g_eqS (us_us _ _ _ _) ?_
  refine g_iload_n (q := 16) B dX8_clearText_15 rfl 0 rfl ?_
  refine g_iret B E dX8_clearText_16 ?_
  exact ⟨rfl, rfl⟩
set_option maxHeartbeats 4000000 in
theorem c_X8_append {Y : gY} {l : Launch} {S : SS} (c : Int) (hc : rI c) (hz : 0 ≤ S 82 1 ∧ S 82 1 ≤ 120) : gM Y l mX8_append S [.ref (yA Y 82), .int (iI c)] (pV (.int (iI (if cd_append (S 82 1) c = 0 then S 82 1 + 1 else 0))) (fun S' => S' = if cd_append (S 82 1) c = 0 then us (us S 83 (uq (S 83) (S 82 1) c)) 82 (uq (uq (S 82) 0 0) 1 (S 82 1 + 1)) else us S 82 (uq (S 82) 0 (cd_append (S 82 1) c)))) := by
  refine gM_of (by decide) (Nat.le_of_ble_eq_true rfl) ?_
  intro X hXl B E
  obtain ⟨hc0, hc1⟩ := hc
  show gW Y X S 0 [(0, .ref (yA Y 82)), (1, .int (iI c))] []
  refine g_aload_n (q := 1) B dX8_append_0 rfl 0 rfl ?_
  refine g_iload_n (q := 2) B dX8_append_1 rfl 1 rfl ?_
  refine g_i2l (q := 3) B dX8_append_2 rfl ⟨by omega, by omega⟩ ?_
  refine g_lconst (z := 0) (q := 4) B dX8_append_3 rfl rfl ?_
  refine g_ldc2 (z := 255) (q := 7) B dX8_append_4 rfl w1000 (by decide) ?_
  refine g_callS (q := 10) (As := [.long (lI c), .long (lI 0), .long (lI 255)]) (st := [.ref (yA Y 82)]) B dX8_append_7 rfl (c_X8_in (l := xL X) (S := S) c 0 255 ⟨by omega, by omega⟩ ⟨by omega, by omega⟩ ⟨by omega, by omega⟩) eX8_in w1001 (by decide) rfl rfl (Nat.le_of_ble_eq_true rfl) (g_kE ?_)
  refine g_ifb_ne (t := 17) (q := 13) B dX8_append_10 (by decide) rfl (fun cq10 => ?_) (fun cq10 => ?_)
  · refine g_aload_n (q := 18) B dX8_append_17 rfl 0 rfl ?_
    refine g_get (n := 82) (ty := tyX8) (q := 21) (v := .int (iI (S 82 1))) B dX8_append_18 rfl rfl rfl cls6 2 (by decide) w953 rfl ?_
    refine g_bipush (q := 23) B dX8_append_21 rfl (by decide) ?_
    refine g_icmp_ne (t := 30) (q := 26) B dX8_append_23 (by decide) rfl ⟨by omega, by omega⟩ ⟨by omega, by omega⟩ (fun cq23 => ?_) (fun cq23 => ?_)
    · refine g_iconst (q := 31) B dX8_append_30 rfl ?_
      refine g_callV (n := 82) (ty := tyX8) (q := 34) (As := [.int (iI 0)]) (st := []) B dX8_append_31 rfl (c_X8_refused (l := xL X) (S := S) 0 ⟨by omega, by omega⟩) eX8_refused w1004 (by decide) rfl rfl cls6 rfl rfl (Nat.le_of_ble_eq_true rfl) (g_kE ?_)
      refine g_ifb_eq (t := 39) (q := 37) B dX8_append_34 (by decide) rfl (fun cq34 => ?_) (fun cq34 => ?_)
      · refine g_aload_n (q := 40) B dX8_append_39 rfl 0 rfl ?_
        refine g_get (n := 82) (ty := tyX8) (q := 43) (v := .ref (yA Y 83)) B dX8_append_40 rfl (us_eq _ _ _) rfl cls6 1 (by decide) w952 rfl ?_
        refine g_aload_n (q := 44) B dX8_append_43 rfl 0 rfl ?_
        refine g_get (n := 82) (ty := tyX8) (q := 47) (v := .int (iI (S 82 1))) B dX8_append_44 rfl (us_eq _ _ _) rfl cls6 2 (by decide) w953 rfl ?_
        refine g_iload_n (q := 48) B dX8_append_47 rfl 1 rfl ?_
        refine g_iast (n := 83) (q := 49) B dX8_append_48 rfl ((us_ne _ _ (by omega)).trans rfl) (fun _ => rfl) (by decide) (by omega) (by omega) ?_
        refine g_aload_n (q := 50) B dX8_append_49 rfl 0 rfl ?_
        refine g_dup (q := 51) B dX8_append_50 rfl rfl ?_
        refine g_get (n := 82) (ty := tyX8) (q := 54) (v := .int (iI (S 82 1))) B dX8_append_51 rfl ((us_ne _ _ (by omega)).trans (us_eq _ _ _)) rfl cls6 2 (by decide) w953 rfl ?_
        refine g_iconst (q := 55) B dX8_append_54 rfl ?_
        refine g_iadd (q := 56) B dX8_append_55 rfl ?_
        refine g_put (n := 82) (ty := tyX8) (q := 59) B dX8_append_56 rfl ((us_ne _ _ (by omega)).trans (us_eq _ _ _)) rfl cls6 2 (by decide) w953 rfl rfl rfl (Nat.le_of_ble_eq_true rfl) ((uq ((uq (S 82) 0 0)) 1 ((S 82 1) + 1))) rfl ?_
        refine g_aload_n (q := 60) B dX8_append_59 rfl 0 rfl ?_
        refine g_get (n := 82) (ty := tyX8) (q := 63) (v := .int (iI ((S 82 1) + 1))) B dX8_append_60 rfl (us_eq _ _ _) rfl cls6 2 (by decide) w953 rfl ?_
        refine g_iret B E dX8_append_63 ?_
        have e : cd_append (S 82 1) c = 0 := by unfold cd_append; (repeat' split) <;> omega
        refine ⟨by rw [e, if_pos rfl], ?_⟩
        rw [e, if_pos rfl]
        funext m
        by_cases h2 : m = 82
        · subst h2; rw [us_eq, us_eq]
        · by_cases h3 : m = 83
          · subst h3; rw [us_ne _ _ h2, us_eq, us_ne _ _ h2, us_eq]
          · rw [us_ne _ _ h2, us_ne _ _ h3, us_ne _ _ h2, us_ne _ _ h2, us_ne _ _ h3]
      · exact absurd cq34 (by decide)
    · refine g_iconst (q := 27) B dX8_append_26 rfl ?_
      refine g_goto (q := 31) B dX8_append_27 (by decide) ?_
      refine g_callV (n := 82) (ty := tyX8) (q := 34) (As := [.int (iI 2)]) (st := []) B dX8_append_31 rfl (c_X8_refused (l := xL X) (S := S) 2 ⟨by omega, by omega⟩) eX8_refused w1004 (by decide) rfl rfl cls6 rfl rfl (Nat.le_of_ble_eq_true rfl) (g_kE ?_)
      refine g_ifb_eq (t := 39) (q := 37) B dX8_append_34 (by decide) rfl (fun cq34 => ?_) (fun cq34 => ?_)
      · exact absurd cq34 (by decide)
      · refine g_iconst (q := 38) B dX8_append_37 rfl ?_
        refine g_iret B E dX8_append_38 ?_
        have e : cd_append (S 82 1) c = 2 := by unfold cd_append; (repeat' split) <;> omega
        exact ⟨by rw [e, if_neg (by decide)], by rw [e, if_neg (by decide)]⟩
  · refine g_iconst (q := 14) B dX8_append_13 rfl ?_
    refine g_goto (q := 31) B dX8_append_14 (by decide) ?_
    refine g_callV (n := 82) (ty := tyX8) (q := 34) (As := [.int (iI 1)]) (st := []) B dX8_append_31 rfl (c_X8_refused (l := xL X) (S := S) 1 ⟨by omega, by omega⟩) eX8_refused w1004 (by decide) rfl rfl cls6 rfl rfl (Nat.le_of_ble_eq_true rfl) (g_kE ?_)
    refine g_ifb_eq (t := 39) (q := 37) B dX8_append_34 (by decide) rfl (fun cq34 => ?_) (fun cq34 => ?_)
    · exact absurd cq34 (by decide)
    · refine g_iconst (q := 38) B dX8_append_37 rfl ?_
      refine g_iret B E dX8_append_38 ?_
      have e : cd_append (S 82 1) c = 1 := by unfold cd_append; (repeat' split) <;> omega
      exact ⟨by rw [e, if_neg (by decide)], by rw [e, if_neg (by decide)]⟩
set_option maxHeartbeats 4000000 in
theorem c_X8_about {Y : gY} {l : Launch} {S : SS} (hw : wf (mw S 84)) (u : Int) (hu : rI u) : gM Y l mX8_about S [.ref (yA Y 82), .int (iI u)] (pC S (cd_about u) (vl_about (mw S 84) u)) := by
  refine gM_of (by decide) (Nat.le_of_ble_eq_true rfl) ?_
  intro X hXl B E
  obtain ⟨⟨hn0, hn16⟩, ⟨hb0, hb1⟩, ⟨hm0, hm1⟩, ⟨hs0, hs1⟩, ⟨hc0, hc1⟩, hct, hkw, how⟩ := wfT hw
  obtain ⟨hu0, hu1⟩ := hu
  show gW Y X S 0 [(0, .ref (yA Y 82)), (1, .int (iI u))] []
  refine g_aload_n (q := 1) B dX8_about_0 rfl 0 rfl ?_
  refine g_iload_n (q := 2) B dX8_about_1 rfl 1 rfl ?_
  refine g_i2l (q := 3) B dX8_about_2 rfl ⟨by omega, by omega⟩ ?_
  refine g_lconst (z := 0) (q := 4) B dX8_about_3 rfl rfl ?_
  refine g_ldc2 (z := 9) (q := 7) B dX8_about_4 rfl w1033 (by decide) ?_
  refine g_callS (q := 10) (As := [.long (lI u), .long (lI 0), .long (lI 9)]) (st := [.ref (yA Y 82)]) B dX8_about_7 rfl (c_X8_in (l := xL X) (S := S) u 0 9 ⟨by omega, by omega⟩ ⟨by omega, by omega⟩ ⟨by omega, by omega⟩) eX8_in w1001 (by decide) rfl rfl (Nat.le_of_ble_eq_true rfl) (g_kE ?_)
  refine g_ifb_eq (t := 17) (q := 13) B dX8_about_10 (by decide) rfl (fun cq10 => ?_) (fun cq10 => ?_)
  · refine g_iconst (q := 18) B dX8_about_17 rfl ?_
    refine g_callV (n := 82) (ty := tyX8) (q := 21) (As := [.int (iI 1)]) (st := []) B dX8_about_18 rfl (c_X8_refused (l := xL X) (S := S) 1 ⟨by omega, by omega⟩) eX8_refused w1004 (by decide) rfl rfl cls6 rfl rfl (Nat.le_of_ble_eq_true rfl) (g_kE ?_)
    have hwz : wf (mw (us S 82 ((uq (S 82) 0 1))) 84) := by rw [us82_84]; exact hw
    have e84_0 : (us S 82 ((uq (S 82) 0 1))) 84 0 = S 84 0 := rfl
    have e84_r : runsF (mw (us S 82 ((uq (S 82) 0 1))) 84) = runsF (mw S 84) := rfl
    refine g_ifb_eq (t := 26) (q := 24) B dX8_about_21 (by decide) rfl (fun cq21 => ?_) (fun cq21 => ?_)
    · exact absurd cq21 (by decide)
    · refine g_iconst (q := 25) B dX8_about_24 rfl ?_
      refine g_iret B E dX8_about_25 ?_
      exact pC_n 1 (by rw [cd_about]; (repeat' split) <;> omega) (by decide)
  · refine g_iconst (q := 14) B dX8_about_13 rfl ?_
    refine g_goto (q := 18) B dX8_about_14 (by decide) ?_
    refine g_callV (n := 82) (ty := tyX8) (q := 21) (As := [.int (iI 0)]) (st := []) B dX8_about_18 rfl (c_X8_refused (l := xL X) (S := S) 0 ⟨by omega, by omega⟩) eX8_refused w1004 (by decide) rfl rfl cls6 rfl rfl (Nat.le_of_ble_eq_true rfl) (g_kE ?_)
    have hwz : wf (mw (us S 82 ((uq (S 82) 0 0))) 84) := by rw [us82_84]; exact hw
    have e84_0 : (us S 82 ((uq (S 82) 0 0))) 84 0 = S 84 0 := rfl
    have e84_r : runsF (mw (us S 82 ((uq (S 82) 0 0))) 84) = runsF (mw S 84) := rfl
    refine g_ifb_eq (t := 26) (q := 24) B dX8_about_21 (by decide) rfl (fun cq21 => ?_) (fun cq21 => ?_)
    · refine g_iload_n (q := 27) B dX8_about_26 rfl 1 rfl ?_
      rcases (show u = 2 ∨ u = 3 ∨ u = 4 ∨ u = 5 ∨ u = 6 ∨ u = 7 ∨ u = 8 ∨ u = 9 ∨ (u ≠ 2 ∧ u ≠ 3 ∧ u ≠ 4 ∧ u ≠ 5 ∧ u ≠ 6 ∧ u ≠ 7 ∧ u ≠ 8 ∧ u ≠ 9) by omega) with cq27 | cq27 | cq27 | cq27 | cq27 | cq27 | cq27 | cq27 | cq27
      · refine g_tsIn (q := 72) B 2 dX8_about_27 cq27 ⟨by decide, by decide, by decide, by decide⟩ rfl (by decide) ?_
        refine g_aload_n (q := 73) B dX8_about_72 rfl 0 rfl ?_
        refine g_get (n := 82) (ty := tyX8) (q := 76) (v := .ref (yA Y 84)) B dX8_about_73 rfl (us_eq _ _ _) rfl cls6 3 (by decide) w954 rfl ?_
        refine g_iconst (q := 77) B dX8_about_76 rfl ?_
        refine g_iald (n := 84) (q := 78) B dX8_about_77 rfl ((us_ne _ _ (by omega)).trans rfl) rfl (by decide) (by omega) (by omega) ?_
        refine g_eqT (st' := [.int (iI ((((S 84 5).toNat : Nat) : Int)))]) (congrArg (fun z => Value.int (iI z) :: []) (show S 84 5 = (((S 84 5).toNat : Nat) : Int) by omega)) ?_
        refine g_callS (q := 81) (As := [.int (iI ((((S 84 5).toNat : Nat) : Int)))]) (st := []) B dX8_about_78 rfl (c_X8_bits (l := xL X) (S := (us S 82 ((uq (S 82) 0 0)))) ((S 84 5).toNat) (by omega)) eX8_bits w1062 (by decide) rfl rfl (Nat.le_of_ble_eq_true rfl) (g_kE ?_)
        have := cn_16 ((S 84 5).toNat)
        refine g_iret B E dX8_about_81 ?_
        exact pC_0 (by rw [cd_about]; (repeat' split) <;> omega) (by (try simp only [us82_84] at *); unfold vl_about; (repeat' split) <;> first | rfl | omega | (subst_vars; rfl))
      · refine g_tsIn (q := 82) B 3 dX8_about_27 cq27 ⟨by decide, by decide, by decide, by decide⟩ rfl (by decide) ?_
        refine g_aload_n (q := 83) B dX8_about_82 rfl 0 rfl ?_
        refine g_get (n := 82) (ty := tyX8) (q := 86) (v := .ref (yA Y 84)) B dX8_about_83 rfl (us_eq _ _ _) rfl cls6 3 (by decide) w954 rfl ?_
        refine g_callS (q := 89) (As := [.ref (yA Y 84)]) (st := []) B dX8_about_86 rfl (c_X8_runs (l := xL X) (S := (us S 82 ((uq (S 82) 0 0)))) (Or.inl rfl) (wf.b hwz)  ) eX8_runs w1059 (by decide) rfl rfl (Nat.le_of_ble_eq_true rfl) (g_kE ?_)
        have := runsF_in (mw (us S 82 ((uq (S 82) 0 0))) 84)
        refine g_iret B E dX8_about_89 ?_
        exact pC_0 (by rw [cd_about]; (repeat' split) <;> omega) (by (try simp only [us82_84] at *); unfold vl_about; (repeat' split) <;> first | rfl | omega | (subst_vars; rfl))
      · refine g_tsIn (q := 90) B 4 dX8_about_27 cq27 ⟨by decide, by decide, by decide, by decide⟩ rfl (by decide) ?_
        refine g_aload_n (q := 91) B dX8_about_90 rfl 0 rfl ?_
        refine g_get (n := 82) (ty := tyX8) (q := 94) (v := .ref (yA Y 84)) B dX8_about_91 rfl (us_eq _ _ _) rfl cls6 3 (by decide) w954 rfl ?_
        refine g_callS (q := 97) (As := [.ref (yA Y 84)]) (st := []) B dX8_about_94 rfl (c_X8_gap (l := xL X) (S := (us S 82 ((uq (S 82) 0 0)))) (Or.inl rfl) hwz  ) eX8_gap w1071 (by decide) rfl rfl (Nat.le_of_ble_eq_true rfl) (g_kE ?_)
        have := gapF_in hwz
        refine g_iret B E dX8_about_97 ?_
        exact pC_0 (by rw [cd_about]; (repeat' split) <;> omega) (by (try simp only [us82_84] at *); unfold vl_about; (repeat' split) <;> first | rfl | omega | (subst_vars; rfl))
      · refine g_tsIn (q := 98) B 5 dX8_about_27 cq27 ⟨by decide, by decide, by decide, by decide⟩ rfl (by decide) ?_
        refine g_aload_n (q := 99) B dX8_about_98 rfl 0 rfl ?_
        refine g_get (n := 82) (ty := tyX8) (q := 102) (v := .ref (yA Y 84)) B dX8_about_99 rfl (us_eq _ _ _) rfl cls6 3 (by decide) w954 rfl ?_
        refine g_callS (q := 105) (As := [.ref (yA Y 84)]) (st := []) B dX8_about_102 rfl (c_X8_nobodys (l := xL X) (S := (us S 82 ((uq (S 82) 0 0)))) (Or.inl rfl) hwz  ) eX8_nobodys w1112 (by decide) rfl rfl (Nat.le_of_ble_eq_true rfl) (g_kE ?_)
        have := nobF_in hwz
        refine g_if_ne (t := 122) (q := 108) B dX8_about_105 (by decide) rfl ⟨by omega, by omega⟩ (fun cq105 => ?_) (fun cq105 => ?_)
        · refine g_iconst (q := 123) B dX8_about_122 rfl ?_
          refine g_iret B E dX8_about_123 ?_
          exact pC_0 (by rw [cd_about]; (repeat' split) <;> omega) (by (try simp only [us82_84] at *); unfold vl_about; (repeat' split) <;> first | rfl | omega | (subst_vars; rfl))
        · refine g_aload_n (q := 109) B dX8_about_108 rfl 0 rfl ?_
          refine g_get (n := 82) (ty := tyX8) (q := 112) (v := .ref (yA Y 84)) B dX8_about_109 rfl (us_eq _ _ _) rfl cls6 3 (by decide) w954 rfl ?_
          refine g_callS (q := 115) (As := [.ref (yA Y 84)]) (st := []) B dX8_about_112 rfl (c_X8_gap (l := xL X) (S := (us S 82 ((uq (S 82) 0 0)))) (Or.inl rfl) hwz  ) eX8_gap w1071 (by decide) rfl rfl (Nat.le_of_ble_eq_true rfl) (g_kE ?_)
          have := gapF_in hwz
          refine g_if_ne (t := 122) (q := 118) B dX8_about_115 (by decide) rfl ⟨by omega, by omega⟩ (fun cq115 => ?_) (fun cq115 => ?_)
          · refine g_iconst (q := 123) B dX8_about_122 rfl ?_
            refine g_iret B E dX8_about_123 ?_
            exact pC_0 (by rw [cd_about]; (repeat' split) <;> omega) (by (try simp only [us82_84] at *); unfold vl_about; (repeat' split) <;> first | rfl | omega | (subst_vars; rfl))
          · refine g_iconst (q := 119) B dX8_about_118 rfl ?_
            refine g_goto (q := 123) B dX8_about_119 (by decide) ?_
            refine g_iret B E dX8_about_123 ?_
            exact pC_0 (by rw [cd_about]; (repeat' split) <;> omega) (by (try simp only [us82_84] at *); unfold vl_about; (repeat' split) <;> first | rfl | omega | (subst_vars; rfl))
      · refine g_tsIn (q := 124) B 6 dX8_about_27 cq27 ⟨by decide, by decide, by decide, by decide⟩ rfl (by decide) ?_
        refine g_aload_n (q := 125) B dX8_about_124 rfl 0 rfl ?_
        refine g_get (n := 82) (ty := tyX8) (q := 128) (v := .ref (yA Y 84)) B dX8_about_125 rfl (us_eq _ _ _) rfl cls6 3 (by decide) w954 rfl ?_
        refine g_iconst (q := 129) B dX8_about_128 rfl ?_
        refine g_iald (n := 84) (q := 130) B dX8_about_129 rfl ((us_ne _ _ (by omega)).trans rfl) rfl (by decide) (by omega) (by omega) ?_
        refine g_iret B E dX8_about_130 ?_
        exact pC_0 (by rw [cd_about]; (repeat' split) <;> omega) (by (try simp only [us82_84] at *); unfold vl_about; (repeat' split) <;> first | rfl | omega | (subst_vars; rfl))
      · refine g_tsIn (q := 131) B 7 dX8_about_27 cq27 ⟨by decide, by decide, by decide, by decide⟩ rfl (by decide) ?_
        refine g_aload_n (q := 132) B dX8_about_131 rfl 0 rfl ?_
        refine g_get (n := 82) (ty := tyX8) (q := 135) (v := .ref (yA Y 84)) B dX8_about_132 rfl (us_eq _ _ _) rfl cls6 3 (by decide) w954 rfl ?_
        refine g_callS (q := 138) (As := [.ref (yA Y 84)]) (st := []) B dX8_about_135 rfl (c_X8_nobodys (l := xL X) (S := (us S 82 ((uq (S 82) 0 0)))) (Or.inl rfl) hwz  ) eX8_nobodys w1112 (by decide) rfl rfl (Nat.le_of_ble_eq_true rfl) (g_kE ?_)
        have := nobF_in hwz
        refine g_iret B E dX8_about_138 ?_
        exact pC_0 (by rw [cd_about]; (repeat' split) <;> omega) (by (try simp only [us82_84] at *); unfold vl_about; (repeat' split) <;> first | rfl | omega | (subst_vars; rfl))
      · refine g_tsIn (q := 139) B 8 dX8_about_27 cq27 ⟨by decide, by decide, by decide, by decide⟩ rfl (by decide) ?_
        refine g_aload_n (q := 140) B dX8_about_139 rfl 0 rfl ?_
        refine g_get (n := 82) (ty := tyX8) (q := 143) (v := .ref (yA Y 84)) B dX8_about_140 rfl (us_eq _ _ _) rfl cls6 3 (by decide) w954 rfl ?_
        refine g_iconst (q := 144) B dX8_about_143 rfl ?_
        refine g_iald (n := 84) (q := 145) B dX8_about_144 rfl ((us_ne _ _ (by omega)).trans rfl) rfl (by decide) (by omega) (by omega) ?_
        refine g_iret B E dX8_about_145 ?_
        exact pC_0 (by rw [cd_about]; (repeat' split) <;> omega) (by (try simp only [us82_84] at *); unfold vl_about; (repeat' split) <;> first | rfl | omega | (subst_vars; rfl))
      · refine g_tsIn (q := 146) B 9 dX8_about_27 cq27 ⟨by decide, by decide, by decide, by decide⟩ rfl (by decide) ?_
        refine g_aload_n (q := 147) B dX8_about_146 rfl 0 rfl ?_
        refine g_get (n := 82) (ty := tyX8) (q := 150) (v := .ref (yA Y 84)) B dX8_about_147 rfl (us_eq _ _ _) rfl cls6 3 (by decide) w954 rfl ?_
        refine g_iconst (q := 151) B dX8_about_150 rfl ?_
        refine g_iald (n := 84) (q := 152) B dX8_about_151 rfl ((us_ne _ _ (by omega)).trans rfl) rfl (by decide) (by omega) (by omega) ?_
        refine g_iret B E dX8_about_152 ?_
        exact pC_0 (by rw [cd_about]; (repeat' split) <;> omega) (by (try simp only [us82_84] at *); unfold vl_about; (repeat' split) <;> first | rfl | omega | (subst_vars; rfl))
      · refine g_tsOut (q := 153) B dX8_about_27 (by omega) ⟨by omega, by omega⟩ (by decide) ?_
        refine g_aload_n (q := 154) B dX8_about_153 rfl 0 rfl ?_
        refine g_get (n := 82) (ty := tyX8) (q := 157) (v := .ref (yA Y 84)) B dX8_about_154 rfl (us_eq _ _ _) rfl cls6 3 (by decide) w954 rfl ?_
        refine g_iload_n (q := 158) B dX8_about_157 rfl 1 rfl ?_
        refine g_iald (n := 84) (q := 159) B dX8_about_158 rfl ((us_ne _ _ (by omega)).trans rfl) rfl (by decide) (by omega) (by omega) ?_
        refine g_iret B E dX8_about_159 ?_
        exact pC_0 (by rw [cd_about]; (repeat' split) <;> omega) (by (try simp only [us82_84] at *); unfold vl_about; (repeat' split) <;> first | rfl | omega | (subst_vars; rfl))
    · exact absurd cq21 (by decide)
set_option maxHeartbeats 4000000 in
theorem c_X8_jewelOf {Y : gY} {l : Launch} {S : SS} (hw : wf (mw S 84)) (j : Int) (hj : rI j) (u : Int) (hu : rI u) : gM Y l mX8_jewelOf S [.ref (yA Y 82), .int (iI j), .int (iI u)] (pC S (cd_jewelOf (mw S 84) j u) (vl_jewelOf (mw S 84) j u)) := by
  refine gM_of (by decide) (Nat.le_of_ble_eq_true rfl) ?_
  intro X hXl B E
  obtain ⟨⟨hn0, hn16⟩, ⟨hb0, hb1⟩, ⟨hm0, hm1⟩, ⟨hs0, hs1⟩, ⟨hc0, hc1⟩, hct, hkw, how⟩ := wfT hw
  obtain ⟨hj0, hj1⟩ := hj
  obtain ⟨hu0, hu1⟩ := hu
  have m0 : mw S 84 0 = S 84 0 := rfl
  show gW Y X S 0 [(0, .ref (yA Y 82)), (1, .int (iI j)), (2, .int (iI u))] []
  refine g_aload_n (q := 1) B dX8_jewelOf_0 rfl 0 rfl ?_
  refine g_aload_n (q := 2) B dX8_jewelOf_1 rfl 0 rfl ?_
  refine g_get (n := 82) (ty := tyX8) (q := 5) (v := .ref (yA Y 84)) B dX8_jewelOf_2 rfl rfl rfl cls6 3 (by decide) w954 rfl ?_
  refine g_iload_n (q := 6) B dX8_jewelOf_5 rfl 1 rfl ?_
  refine g_callS (q := 9) (As := [.ref (yA Y 84), .int (iI j)]) (st := [.ref (yA Y 82)]) B dX8_jewelOf_6 rfl (c_X8_isJewel (l := xL X) (S := S) (Or.inl rfl) (wf.b hw) j ⟨by omega, by omega⟩) eX8_isJewel w1041 (by decide) rfl rfl (Nat.le_of_ble_eq_true rfl) (g_kE ?_)
  refine g_ifb_ne (t := 16) (q := 12) B dX8_jewelOf_9 (by decide) rfl (fun cq9 => ?_) (fun cq9 => ?_)
  · refine g_iload_n (q := 17) B dX8_jewelOf_16 rfl 2 rfl ?_
    refine g_i2l (q := 18) B dX8_jewelOf_17 rfl ⟨by omega, by omega⟩ ?_
    refine g_lconst (z := 0) (q := 19) B dX8_jewelOf_18 rfl rfl ?_
    refine g_ldc2 (z := 2) (q := 22) B dX8_jewelOf_19 rfl w1119 (by decide) ?_
    refine g_callS (q := 25) (As := [.long (lI u), .long (lI 0), .long (lI 2)]) (st := [.ref (yA Y 82)]) B dX8_jewelOf_22 rfl (c_X8_in (l := xL X) (S := S) u 0 2 ⟨by omega, by omega⟩ ⟨by omega, by omega⟩ ⟨by omega, by omega⟩) eX8_in w1001 (by decide) rfl rfl (Nat.le_of_ble_eq_true rfl) (g_kE ?_)
    refine g_ifb_eq (t := 32) (q := 28) B dX8_jewelOf_25 (by decide) rfl (fun cq25 => ?_) (fun cq25 => ?_)
    · refine g_iconst (q := 33) B dX8_jewelOf_32 rfl ?_
      refine g_callV (n := 82) (ty := tyX8) (q := 36) (As := [.int (iI 2)]) (st := []) B dX8_jewelOf_33 rfl (c_X8_refused (l := xL X) (S := S) 2 ⟨by omega, by omega⟩) eX8_refused w1004 (by decide) rfl rfl cls6 rfl rfl (Nat.le_of_ble_eq_true rfl) (g_kE ?_)
      have hwz : wf (mw (us S 82 ((uq (S 82) 0 2))) 84) := by rw [us82_84]; exact hw
      have e84_0 : (us S 82 ((uq (S 82) 0 2))) 84 0 = S 84 0 := rfl
      have e84_r : runsF (mw (us S 82 ((uq (S 82) 0 2))) 84) = runsF (mw S 84) := rfl
      refine g_ifb_eq (t := 41) (q := 39) B dX8_jewelOf_36 (by decide) rfl (fun cq36 => ?_) (fun cq36 => ?_)
      · exact absurd cq36 (by decide)
      · refine g_iconst (q := 40) B dX8_jewelOf_39 rfl ?_
        refine g_iret B E dX8_jewelOf_40 ?_
        exact pC_n 2 (by rw [cd_jewelOf]; (repeat' split) <;> omega) (by decide)
    · refine g_iconst (q := 29) B dX8_jewelOf_28 rfl ?_
      refine g_goto (q := 33) B dX8_jewelOf_29 (by decide) ?_
      refine g_callV (n := 82) (ty := tyX8) (q := 36) (As := [.int (iI 0)]) (st := []) B dX8_jewelOf_33 rfl (c_X8_refused (l := xL X) (S := S) 0 ⟨by omega, by omega⟩) eX8_refused w1004 (by decide) rfl rfl cls6 rfl rfl (Nat.le_of_ble_eq_true rfl) (g_kE ?_)
      have hwz : wf (mw (us S 82 ((uq (S 82) 0 0))) 84) := by rw [us82_84]; exact hw
      have e84_0 : (us S 82 ((uq (S 82) 0 0))) 84 0 = S 84 0 := rfl
      have e84_r : runsF (mw (us S 82 ((uq (S 82) 0 0))) 84) = runsF (mw S 84) := rfl
      refine g_ifb_eq (t := 41) (q := 39) B dX8_jewelOf_36 (by decide) rfl (fun cq36 => ?_) (fun cq36 => ?_)
      · refine g_iload_n (q := 42) B dX8_jewelOf_41 rfl 2 rfl ?_
        refine g_if_ne (t := 57) (q := 45) B dX8_jewelOf_42 (by decide) rfl ⟨by omega, by omega⟩ (fun cq42 => ?_) (fun cq42 => ?_)
        · refine g_iload_n (q := 58) B dX8_jewelOf_57 rfl 2 rfl ?_
          refine g_iconst (q := 59) B dX8_jewelOf_58 rfl ?_
          refine g_icmp_ne (t := 74) (q := 62) B dX8_jewelOf_59 (by decide) rfl ⟨by omega, by omega⟩ ⟨by omega, by omega⟩ (fun cq59 => ?_) (fun cq59 => ?_)
          · refine g_aload_n (q := 75) B dX8_jewelOf_74 rfl 0 rfl ?_
            refine g_get (n := 82) (ty := tyX8) (q := 78) (v := .ref (yA Y 84)) B dX8_jewelOf_75 rfl (us_eq _ _ _) rfl cls6 3 (by decide) w954 rfl ?_
            refine g_iload_n (q := 79) B dX8_jewelOf_78 rfl 1 rfl ?_
            refine g_callS (q := 82) (As := [.ref (yA Y 84), .int (iI j)]) (st := []) B dX8_jewelOf_79 rfl (c_X8_placeOn (l := xL X) (S := (us S 82 ((uq (S 82) 0 0)))) (Or.inl rfl) hwz j (by omega) (by omega)) eX8_placeOn w1120 (by decide) rfl rfl (Nat.le_of_ble_eq_true rfl) (g_kE ?_)
            refine g_iret B E dX8_jewelOf_82 ?_
            exact pC_0 (by rw [cd_jewelOf]; (repeat' split) <;> omega) (by unfold vl_jewelOf; (repeat' split) <;> first | omega | rfl | exact mw_e S 84 (by omega) (by omega))
          · refine g_aload_n (q := 63) B dX8_jewelOf_62 rfl 0 rfl ?_
            refine g_get (n := 82) (ty := tyX8) (q := 66) (v := .ref (yA Y 84)) B dX8_jewelOf_63 rfl (us_eq _ _ _) rfl cls6 3 (by decide) w954 rfl ?_
            refine g_bipush (q := 68) B dX8_jewelOf_66 rfl (by decide) ?_
            refine g_iload_n (q := 69) B dX8_jewelOf_68 rfl 1 rfl ?_
            refine g_iadd (q := 70) B dX8_jewelOf_69 rfl ?_
            refine g_iald (n := 84) (q := 71) B dX8_jewelOf_70 rfl ((us_ne _ _ (by omega)).trans rfl) rfl (by decide) (by omega) (by omega) ?_
            refine g_goto (q := 82) B dX8_jewelOf_71 (by decide) ?_
            refine g_iret B E dX8_jewelOf_82 ?_
            exact pC_0 (by rw [cd_jewelOf]; (repeat' split) <;> omega) (by unfold vl_jewelOf; (repeat' split) <;> first | omega | rfl | exact mw_e S 84 (by omega) (by omega))
        · refine g_aload_n (q := 46) B dX8_jewelOf_45 rfl 0 rfl ?_
          refine g_get (n := 82) (ty := tyX8) (q := 49) (v := .ref (yA Y 84)) B dX8_jewelOf_46 rfl (us_eq _ _ _) rfl cls6 3 (by decide) w954 rfl ?_
          refine g_bipush (q := 51) B dX8_jewelOf_49 rfl (by decide) ?_
          refine g_iload_n (q := 52) B dX8_jewelOf_51 rfl 1 rfl ?_
          refine g_iadd (q := 53) B dX8_jewelOf_52 rfl ?_
          refine g_iald (n := 84) (q := 54) B dX8_jewelOf_53 rfl ((us_ne _ _ (by omega)).trans rfl) rfl (by decide) (by omega) (by omega) ?_
          refine g_goto (q := 82) B dX8_jewelOf_54 (by decide) ?_
          refine g_iret B E dX8_jewelOf_82 ?_
          exact pC_0 (by rw [cd_jewelOf]; (repeat' split) <;> omega) (by unfold vl_jewelOf; (repeat' split) <;> first | omega | rfl | exact mw_e S 84 (by omega) (by omega))
      · exact absurd cq36 (by decide)
  · refine g_iconst (q := 13) B dX8_jewelOf_12 rfl ?_
    refine g_goto (q := 33) B dX8_jewelOf_13 (by decide) ?_
    refine g_callV (n := 82) (ty := tyX8) (q := 36) (As := [.int (iI 1)]) (st := []) B dX8_jewelOf_33 rfl (c_X8_refused (l := xL X) (S := S) 1 ⟨by omega, by omega⟩) eX8_refused w1004 (by decide) rfl rfl cls6 rfl rfl (Nat.le_of_ble_eq_true rfl) (g_kE ?_)
    have hwz : wf (mw (us S 82 ((uq (S 82) 0 1))) 84) := by rw [us82_84]; exact hw
    have e84_0 : (us S 82 ((uq (S 82) 0 1))) 84 0 = S 84 0 := rfl
    have e84_r : runsF (mw (us S 82 ((uq (S 82) 0 1))) 84) = runsF (mw S 84) := rfl
    refine g_ifb_eq (t := 41) (q := 39) B dX8_jewelOf_36 (by decide) rfl (fun cq36 => ?_) (fun cq36 => ?_)
    · exact absurd cq36 (by decide)
    · refine g_iconst (q := 40) B dX8_jewelOf_39 rfl ?_
      refine g_iret B E dX8_jewelOf_40 ?_
      exact pC_n 1 (by rw [cd_jewelOf]; (repeat' split) <;> omega) (by decide)
set_option maxHeartbeats 4000000 in
theorem c_X8_placeOf {Y : gY} {l : Launch} {S : SS} (hw : wf (mw S 84)) (p : Int) (hp : rI p) (u : Int) (hu : rI u) : gM Y l mX8_placeOf S [.ref (yA Y 82), .int (iI p), .int (iI u)] (pC S (cd_placeOf (mw S 84) p u) (vl_placeOf (mw S 84) p u)) := by
  refine gM_of (by decide) (Nat.le_of_ble_eq_true rfl) ?_
  intro X hXl B E
  obtain ⟨⟨hn0, hn16⟩, ⟨hb0, hb1⟩, ⟨hm0, hm1⟩, ⟨hs0, hs1⟩, ⟨hc0, hc1⟩, hct, hkw, how⟩ := wfT hw
  obtain ⟨hp0, hp1⟩ := hp
  obtain ⟨hu0, hu1⟩ := hu
  have m0 : mw S 84 0 = S 84 0 := rfl
  have m5 : mw S 84 5 = S 84 5 := rfl
  show gW Y X S 0 [(0, .ref (yA Y 82)), (1, .int (iI p)), (2, .int (iI u))] []
  refine g_aload_n (q := 1) B dX8_placeOf_0 rfl 0 rfl ?_
  refine g_aload_n (q := 2) B dX8_placeOf_1 rfl 0 rfl ?_
  refine g_get (n := 82) (ty := tyX8) (q := 5) (v := .ref (yA Y 84)) B dX8_placeOf_2 rfl rfl rfl cls6 3 (by decide) w954 rfl ?_
  refine g_iload_n (q := 6) B dX8_placeOf_5 rfl 1 rfl ?_
  refine g_callS (q := 9) (As := [.ref (yA Y 84), .int (iI p)]) (st := [.ref (yA Y 82)]) B dX8_placeOf_6 rfl (c_X8_isJewel (l := xL X) (S := S) (Or.inl rfl) (wf.b hw) p ⟨by omega, by omega⟩) eX8_isJewel w1041 (by decide) rfl rfl (Nat.le_of_ble_eq_true rfl) (g_kE ?_)
  refine g_ifb_ne (t := 16) (q := 12) B dX8_placeOf_9 (by decide) rfl (fun cq9 => ?_) (fun cq9 => ?_)
  · refine g_iload_n (q := 17) B dX8_placeOf_16 rfl 2 rfl ?_
    refine g_i2l (q := 18) B dX8_placeOf_17 rfl ⟨by omega, by omega⟩ ?_
    refine g_lconst (z := 0) (q := 19) B dX8_placeOf_18 rfl rfl ?_
    refine g_ldc2 (z := 3) (q := 22) B dX8_placeOf_19 rfl w1028 (by decide) ?_
    refine g_callS (q := 25) (As := [.long (lI u), .long (lI 0), .long (lI 3)]) (st := [.ref (yA Y 82)]) B dX8_placeOf_22 rfl (c_X8_in (l := xL X) (S := S) u 0 3 ⟨by omega, by omega⟩ ⟨by omega, by omega⟩ ⟨by omega, by omega⟩) eX8_in w1001 (by decide) rfl rfl (Nat.le_of_ble_eq_true rfl) (g_kE ?_)
    refine g_ifb_eq (t := 32) (q := 28) B dX8_placeOf_25 (by decide) rfl (fun cq25 => ?_) (fun cq25 => ?_)
    · refine g_iconst (q := 33) B dX8_placeOf_32 rfl ?_
      refine g_callV (n := 82) (ty := tyX8) (q := 36) (As := [.int (iI 2)]) (st := []) B dX8_placeOf_33 rfl (c_X8_refused (l := xL X) (S := S) 2 ⟨by omega, by omega⟩) eX8_refused w1004 (by decide) rfl rfl cls6 rfl rfl (Nat.le_of_ble_eq_true rfl) (g_kE ?_)
      have hwz : wf (mw (us S 82 ((uq (S 82) 0 2))) 84) := by rw [us82_84]; exact hw
      have e84_0 : (us S 82 ((uq (S 82) 0 2))) 84 0 = S 84 0 := rfl
      have e84_r : runsF (mw (us S 82 ((uq (S 82) 0 2))) 84) = runsF (mw S 84) := rfl
      refine g_ifb_eq (t := 41) (q := 39) B dX8_placeOf_36 (by decide) rfl (fun cq36 => ?_) (fun cq36 => ?_)
      · exact absurd cq36 (by decide)
      · refine g_iconst (q := 40) B dX8_placeOf_39 rfl ?_
        refine g_iret B E dX8_placeOf_40 ?_
        exact pC_n 2 (by rw [cd_placeOf]; (repeat' split) <;> omega) (by decide)
    · refine g_iconst (q := 29) B dX8_placeOf_28 rfl ?_
      refine g_goto (q := 33) B dX8_placeOf_29 (by decide) ?_
      refine g_callV (n := 82) (ty := tyX8) (q := 36) (As := [.int (iI 0)]) (st := []) B dX8_placeOf_33 rfl (c_X8_refused (l := xL X) (S := S) 0 ⟨by omega, by omega⟩) eX8_refused w1004 (by decide) rfl rfl cls6 rfl rfl (Nat.le_of_ble_eq_true rfl) (g_kE ?_)
      have hwz : wf (mw (us S 82 ((uq (S 82) 0 0))) 84) := by rw [us82_84]; exact hw
      have e84_0 : (us S 82 ((uq (S 82) 0 0))) 84 0 = S 84 0 := rfl
      have e84_r : runsF (mw (us S 82 ((uq (S 82) 0 0))) 84) = runsF (mw S 84) := rfl
      refine g_ifb_eq (t := 41) (q := 39) B dX8_placeOf_36 (by decide) rfl (fun cq36 => ?_) (fun cq36 => ?_)
      · refine g_iload_n (q := 42) B dX8_placeOf_41 rfl 2 rfl ?_
        refine g_if_ne (t := 56) (q := 45) B dX8_placeOf_42 (by decide) rfl ⟨by omega, by omega⟩ (fun cq42 => ?_) (fun cq42 => ?_)
        · refine g_iload_n (q := 57) B dX8_placeOf_56 rfl 2 rfl ?_
          refine g_iconst (q := 58) B dX8_placeOf_57 rfl ?_
          refine g_icmp_ne (t := 73) (q := 61) B dX8_placeOf_58 (by decide) rfl ⟨by omega, by omega⟩ ⟨by omega, by omega⟩ (fun cq58 => ?_) (fun cq58 => ?_)
          · refine g_iload_n (q := 74) B dX8_placeOf_73 rfl 2 rfl ?_
            refine g_iconst (q := 75) B dX8_placeOf_74 rfl ?_
            refine g_icmp_ne (t := 89) (q := 78) B dX8_placeOf_75 (by decide) rfl ⟨by omega, by omega⟩ ⟨by omega, by omega⟩ (fun cq75 => ?_) (fun cq75 => ?_)
            · refine g_aload_n (q := 90) B dX8_placeOf_89 rfl 0 rfl ?_
              refine g_get (n := 82) (ty := tyX8) (q := 93) (v := .ref (yA Y 84)) B dX8_placeOf_90 rfl (us_eq _ _ _) rfl cls6 3 (by decide) w954 rfl ?_
              refine g_iload_n (q := 94) B dX8_placeOf_93 rfl 1 rfl ?_
              refine g_callS (q := 97) (As := [.ref (yA Y 84), .int (iI p)]) (st := []) B dX8_placeOf_94 rfl (c_X8_isCut (l := xL X) (S := (us S 82 ((uq (S 82) 0 0)))) (Or.inl rfl) hc0 hc1 p (by omega) (by omega)) eX8_isCut w1053 (by decide) rfl rfl (Nat.le_of_ble_eq_true rfl) (g_kE ?_)
              refine g_ifb_eq (t := 104) (q := 100) B dX8_placeOf_97 (by decide) rfl (fun cq97 => ?_) (fun cq97 => ?_)
              · refine g_iconst (q := 105) B dX8_placeOf_104 rfl ?_
                refine g_iret B E dX8_placeOf_105 ?_
                exact pC_0 (by rw [cd_placeOf]; (repeat' split) <;> omega) (by (try simp only [us82_84] at *); unfold vl_placeOf; rw [m5]; (repeat' split) <;> first | omega | rfl | exact mw_e S 84 (by omega) (by omega) | (exfalso; contradiction))
              · refine g_iconst (q := 101) B dX8_placeOf_100 rfl ?_
                refine g_goto (q := 105) B dX8_placeOf_101 (by decide) ?_
                refine g_iret B E dX8_placeOf_105 ?_
                exact pC_0 (by rw [cd_placeOf]; (repeat' split) <;> omega) (by (try simp only [us82_84] at *); unfold vl_placeOf; rw [m5]; (repeat' split) <;> first | omega | rfl | exact mw_e S 84 (by omega) (by omega) | (exfalso; contradiction))
            · refine g_aload_n (q := 79) B dX8_placeOf_78 rfl 0 rfl ?_
              refine g_get (n := 82) (ty := tyX8) (q := 82) (v := .ref (yA Y 84)) B dX8_placeOf_79 rfl (us_eq _ _ _) rfl cls6 3 (by decide) w954 rfl ?_
              refine g_iload_n (q := 83) B dX8_placeOf_82 rfl 1 rfl ?_
              refine g_callS (q := 86) (As := [.ref (yA Y 84), .int (iI p)]) (st := []) B dX8_placeOf_83 rfl (c_X8_runAt (l := xL X) (S := (us S 82 ((uq (S 82) 0 0)))) (Or.inl rfl) (wf.b hwz) p (by omega) (by omega)) eX8_runAt w1056 (by decide) rfl rfl (Nat.le_of_ble_eq_true rfl) (g_kE ?_)
              have := runF_in (mw (us S 82 ((uq (S 82) 0 0))) 84) (p := p) (by omega)
              refine g_goto (q := 105) B dX8_placeOf_86 (by decide) ?_
              refine g_iret B E dX8_placeOf_105 ?_
              exact pC_0 (by rw [cd_placeOf]; (repeat' split) <;> omega) (by (try simp only [us82_84] at *); unfold vl_placeOf; rw [m5]; (repeat' split) <;> first | omega | rfl | exact mw_e S 84 (by omega) (by omega) | (exfalso; contradiction))
          · refine g_aload_n (q := 62) B dX8_placeOf_61 rfl 0 rfl ?_
            refine g_get (n := 82) (ty := tyX8) (q := 65) (v := .ref (yA Y 84)) B dX8_placeOf_62 rfl (us_eq _ _ _) rfl cls6 3 (by decide) w954 rfl ?_
            refine g_bipush (q := 67) B dX8_placeOf_65 rfl (by decide) ?_
            refine g_iload_n (q := 68) B dX8_placeOf_67 rfl 1 rfl ?_
            refine g_iadd (q := 69) B dX8_placeOf_68 rfl ?_
            refine g_iald (n := 84) (q := 70) B dX8_placeOf_69 rfl ((us_ne _ _ (by omega)).trans rfl) rfl (by decide) (by omega) (by omega) ?_
            refine g_goto (q := 105) B dX8_placeOf_70 (by decide) ?_
            refine g_iret B E dX8_placeOf_105 ?_
            exact pC_0 (by rw [cd_placeOf]; (repeat' split) <;> omega) (by (try simp only [us82_84] at *); unfold vl_placeOf; rw [m5]; (repeat' split) <;> first | omega | rfl | exact mw_e S 84 (by omega) (by omega) | (exfalso; contradiction))
        · refine g_aload_n (q := 46) B dX8_placeOf_45 rfl 0 rfl ?_
          refine g_get (n := 82) (ty := tyX8) (q := 49) (v := .ref (yA Y 84)) B dX8_placeOf_46 rfl (us_eq _ _ _) rfl cls6 3 (by decide) w954 rfl ?_
          refine g_iload_n (q := 50) B dX8_placeOf_49 rfl 1 rfl ?_
          refine g_callS (q := 53) (As := [.ref (yA Y 84), .int (iI p)]) (st := []) B dX8_placeOf_50 rfl (c_X8_jewelAt (l := xL X) (S := (us S 82 ((uq (S 82) 0 0)))) (Or.inl rfl) hwz p (by omega) (by omega)) eX8_jewelAt w1077 (by decide) rfl rfl (Nat.le_of_ble_eq_true rfl) (g_kE ?_)
          refine g_goto (q := 105) B dX8_placeOf_53 (by decide) ?_
          refine g_iret B E dX8_placeOf_105 ?_
          exact pC_0 (by rw [cd_placeOf]; (repeat' split) <;> omega) (by (try simp only [us82_84] at *); unfold vl_placeOf; rw [m5]; (repeat' split) <;> first | omega | rfl | exact mw_e S 84 (by omega) (by omega) | (exfalso; contradiction))
      · exact absurd cq36 (by decide)
  · refine g_iconst (q := 13) B dX8_placeOf_12 rfl ?_
    refine g_goto (q := 33) B dX8_placeOf_13 (by decide) ?_
    refine g_callV (n := 82) (ty := tyX8) (q := 36) (As := [.int (iI 1)]) (st := []) B dX8_placeOf_33 rfl (c_X8_refused (l := xL X) (S := S) 1 ⟨by omega, by omega⟩) eX8_refused w1004 (by decide) rfl rfl cls6 rfl rfl (Nat.le_of_ble_eq_true rfl) (g_kE ?_)
    have hwz : wf (mw (us S 82 ((uq (S 82) 0 1))) 84) := by rw [us82_84]; exact hw
    have e84_0 : (us S 82 ((uq (S 82) 0 1))) 84 0 = S 84 0 := rfl
    have e84_r : runsF (mw (us S 82 ((uq (S 82) 0 1))) 84) = runsF (mw S 84) := rfl
    refine g_ifb_eq (t := 41) (q := 39) B dX8_placeOf_36 (by decide) rfl (fun cq36 => ?_) (fun cq36 => ?_)
    · exact absurd cq36 (by decide)
    · refine g_iconst (q := 40) B dX8_placeOf_39 rfl ?_
      refine g_iret B E dX8_placeOf_40 ?_
      exact pC_n 1 (by rw [cd_placeOf]; (repeat' split) <;> omega) (by decide)
set_option maxHeartbeats 4000000 in
theorem c_X8_has {Y : gY} {l : Launch} {S : SS} (hw : wf (mw S 84)) (s : Int) (hs : rI s) (k : Int) (hk : rI k) : gM Y l mX8_has S [.ref (yA Y 82), .int (iI s), .int (iI k)] (pC S (cd_has s k) (hasF (mw S 84) s k)) := by
  refine gM_of (by decide) (Nat.le_of_ble_eq_true rfl) ?_
  intro X hXl B E
  obtain ⟨⟨hn0, hn16⟩, ⟨hb0, hb1⟩, ⟨hm0, hm1⟩, ⟨hs0, hs1⟩, ⟨hc0, hc1⟩, hct, hkw, how⟩ := wfT hw
  obtain ⟨hs0, hs1⟩ := hs
  obtain ⟨hk0, hk1⟩ := hk
  show gW Y X S 0 [(0, .ref (yA Y 82)), (1, .int (iI s)), (2, .int (iI k))] []
  refine g_aload_n (q := 1) B dX8_has_0 rfl 0 rfl ?_
  refine g_iload_n (q := 2) B dX8_has_1 rfl 1 rfl ?_
  refine g_i2l (q := 3) B dX8_has_2 rfl ⟨by omega, by omega⟩ ?_
  refine g_lconst (z := 0) (q := 4) B dX8_has_3 rfl rfl ?_
  refine g_lconst (z := 1) (q := 5) B dX8_has_4 rfl rfl ?_
  refine g_callS (q := 8) (As := [.long (lI s), .long (lI 0), .long (lI 1)]) (st := [.ref (yA Y 82)]) B dX8_has_5 rfl (c_X8_in (l := xL X) (S := S) s 0 1 ⟨by omega, by omega⟩ ⟨by omega, by omega⟩ ⟨by omega, by omega⟩) eX8_in w1001 (by decide) rfl rfl (Nat.le_of_ble_eq_true rfl) (g_kE ?_)
  refine g_ifb_eq (t := 27) (q := 11) B dX8_has_8 (by decide) rfl (fun cq8 => ?_) (fun cq8 => ?_)
  · refine g_iconst (q := 28) B dX8_has_27 rfl ?_
    refine g_callV (n := 82) (ty := tyX8) (q := 31) (As := [.int (iI 1)]) (st := []) B dX8_has_28 rfl (c_X8_refused (l := xL X) (S := S) 1 ⟨by omega, by omega⟩) eX8_refused w1004 (by decide) rfl rfl cls6 rfl rfl (Nat.le_of_ble_eq_true rfl) (g_kE ?_)
    have hwz : wf (mw (us S 82 ((uq (S 82) 0 1))) 84) := by rw [us82_84]; exact hw
    have e84_0 : (us S 82 ((uq (S 82) 0 1))) 84 0 = S 84 0 := rfl
    have e84_r : runsF (mw (us S 82 ((uq (S 82) 0 1))) 84) = runsF (mw S 84) := rfl
    refine g_ifb_eq (t := 36) (q := 34) B dX8_has_31 (by decide) rfl (fun cq31 => ?_) (fun cq31 => ?_)
    · exact absurd cq31 (by decide)
    · refine g_iconst (q := 35) B dX8_has_34 rfl ?_
      refine g_iret B E dX8_has_35 ?_
      exact pC_n 1 (by rw [cd_has]; (repeat' split) <;> omega) (by decide)
  · refine g_iload_n (q := 12) B dX8_has_11 rfl 2 rfl ?_
    refine g_i2l (q := 13) B dX8_has_12 rfl ⟨by omega, by omega⟩ ?_
    refine g_lconst (z := 0) (q := 14) B dX8_has_13 rfl rfl ?_
    refine g_ldc2 (z := 3) (q := 17) B dX8_has_14 rfl w1028 (by decide) ?_
    refine g_callS (q := 20) (As := [.long (lI k), .long (lI 0), .long (lI 3)]) (st := [.ref (yA Y 82)]) B dX8_has_17 rfl (c_X8_in (l := xL X) (S := S) k 0 3 ⟨by omega, by omega⟩ ⟨by omega, by omega⟩ ⟨by omega, by omega⟩) eX8_in w1001 (by decide) rfl rfl (Nat.le_of_ble_eq_true rfl) (g_kE ?_)
    refine g_ifb_eq (t := 27) (q := 23) B dX8_has_20 (by decide) rfl (fun cq20 => ?_) (fun cq20 => ?_)
    · refine g_iconst (q := 28) B dX8_has_27 rfl ?_
      refine g_callV (n := 82) (ty := tyX8) (q := 31) (As := [.int (iI 1)]) (st := []) B dX8_has_28 rfl (c_X8_refused (l := xL X) (S := S) 1 ⟨by omega, by omega⟩) eX8_refused w1004 (by decide) rfl rfl cls6 rfl rfl (Nat.le_of_ble_eq_true rfl) (g_kE ?_)
      have hwz : wf (mw (us S 82 ((uq (S 82) 0 1))) 84) := by rw [us82_84]; exact hw
      have e84_0 : (us S 82 ((uq (S 82) 0 1))) 84 0 = S 84 0 := rfl
      have e84_r : runsF (mw (us S 82 ((uq (S 82) 0 1))) 84) = runsF (mw S 84) := rfl
      refine g_ifb_eq (t := 36) (q := 34) B dX8_has_31 (by decide) rfl (fun cq31 => ?_) (fun cq31 => ?_)
      · exact absurd cq31 (by decide)
      · refine g_iconst (q := 35) B dX8_has_34 rfl ?_
        refine g_iret B E dX8_has_35 ?_
        exact pC_n 1 (by rw [cd_has]; (repeat' split) <;> omega) (by decide)
    · refine g_iconst (q := 24) B dX8_has_23 rfl ?_
      refine g_goto (q := 28) B dX8_has_24 (by decide) ?_
      refine g_callV (n := 82) (ty := tyX8) (q := 31) (As := [.int (iI 0)]) (st := []) B dX8_has_28 rfl (c_X8_refused (l := xL X) (S := S) 0 ⟨by omega, by omega⟩) eX8_refused w1004 (by decide) rfl rfl cls6 rfl rfl (Nat.le_of_ble_eq_true rfl) (g_kE ?_)
      have hwz : wf (mw (us S 82 ((uq (S 82) 0 0))) 84) := by rw [us82_84]; exact hw
      have e84_0 : (us S 82 ((uq (S 82) 0 0))) 84 0 = S 84 0 := rfl
      have e84_r : runsF (mw (us S 82 ((uq (S 82) 0 0))) 84) = runsF (mw S 84) := rfl
      refine g_ifb_eq (t := 36) (q := 34) B dX8_has_31 (by decide) rfl (fun cq31 => ?_) (fun cq31 => ?_)
      · refine g_aload_n (q := 37) B dX8_has_36 rfl 0 rfl ?_
        refine g_get (n := 82) (ty := tyX8) (q := 40) (v := .ref (yA Y 84)) B dX8_has_37 rfl (us_eq _ _ _) rfl cls6 3 (by decide) w954 rfl ?_
        refine g_iload_n (q := 41) B dX8_has_40 rfl 1 rfl ?_
        refine g_iload_n (q := 42) B dX8_has_41 rfl 2 rfl ?_
        refine g_callS (q := 45) (As := [.ref (yA Y 84), .int (iI s), .int (iI k)]) (st := []) B dX8_has_42 rfl (c_X8_hasOf (l := xL X) (S := (us S 82 ((uq (S 82) 0 0)))) (Or.inl rfl) hwz s k ⟨by omega, by omega⟩ ⟨by omega, by omega⟩) eX8_hasOf w1074 (by decide) rfl rfl (Nat.le_of_ble_eq_true rfl) (g_kE ?_)
        refine g_iret B E dX8_has_45 ?_
        exact pC_0 (by rw [cd_has]; (repeat' split) <;> omega) (by rw [us82_84])
      · exact absurd cq31 (by decide)
set_option maxHeartbeats 4000000 in
theorem c_X8_runOf {Y : gY} {l : Launch} {S : SS} (hw : wf (mw S 84)) (r : Int) (hr : rI r) (u : Int) (hu : rI u) : gM Y l mX8_runOf S [.ref (yA Y 82), .int (iI r), .int (iI u)] (pC S (cd_runOf (mw S 84) r u) (vl_runOf (mw S 84) r u)) := by
  refine gM_of (by decide) (Nat.le_of_ble_eq_true rfl) ?_
  intro X hXl B E
  obtain ⟨⟨hn0, hn16⟩, ⟨hb0, hb1⟩, ⟨hm0, hm1⟩, ⟨hs0, hs1⟩, ⟨hc0, hc1⟩, hct, hkw, how⟩ := wfT hw
  obtain ⟨hr0, hr1⟩ := hr
  obtain ⟨hu0, hu1⟩ := hu
  have hrr := runsF_in (mw S 84)
  show gW Y X S 0 [(0, .ref (yA Y 82)), (1, .int (iI r)), (2, .int (iI u))] []
  have lp66 : ∀ (fu : Nat) (q : Nat) (x3 x4 x5 x6 : Int) , x3 = (fpF (mw S 84) r) → x4 = (plF (mw S 84) r) → x5 = (rvG (mw S 84) r q) → x6 = ((q : Int)) → fpF (mw S 84) r ≤ (q : Int) → (q : Int) ≤ fpF (mw S 84) r + plF (mw S 84) r → 0 ≤ r ∧ r ≤ runsF (mw S 84) - 1 → 0 ≤ u ∧ u ≤ 3 → 17 - q < fu → gW Y X (us S 82 ((uq (S 82) 0 0))) 66 [(0, .ref (yA Y 82)), (1, .int (iI r)), (2, .int (iI u)), (3, .int (iI x3)), (4, .int (iI x4)), (5, .int (iI x5)), (6, .int (iI x6))] [] := by
    intro fu
    induction fu with
    | zero =>
      intro q x3 x4 x5 x6 e_x3 e_x4 e_x5 e_x6 hq1 hq2 hrv hud hfu
      exact absurd hfu (Nat.not_lt_zero _)
    | succ fu ih =>
      intro q x3 x4 x5 x6 e_x3 e_x4 e_x5 e_x6 hq1 hq2 hrv hud hfu
      subst e_x3
      subst e_x4
      subst e_x5
      subst e_x6
      have hwz : wf (mw (us S 82 (uq (S 82) 0 0)) 84) := by rw [us82_84]; exact hw
      have e84_0 : us S 82 (uq (S 82) 0 0) 84 0 = S 84 0 := rfl
      have hjz : jatF (mw (us S 82 (uq (S 82) 0 0)) 84) (q : Int) = jatF (mw S 84) (q : Int) := rfl
      obtain ⟨f0, f1, f2, f3⟩ := fpF_in hw (r := r) (by omega) (by omega)
      have hpl := plF_run hw (r := r) (by omega) (by omega)
      rw [mw_0] at f1 hpl
      have hp0 := plF_in hw r
      refine g_iload (q := 68) B dX8_runOf_66 rfl 6 rfl ?_
      refine g_iload_n (q := 69) B dX8_runOf_68 rfl 3 rfl ?_
      refine g_iload (q := 71) B dX8_runOf_69 rfl 4 rfl ?_
      refine g_iadd (q := 72) B dX8_runOf_71 rfl ?_
      refine g_icmp_ge (t := 102) (q := 75) B dX8_runOf_72 (by decide) rfl ⟨by omega, by omega⟩ ⟨by omega, by omega⟩ (fun cq72 => ?_) (fun cq72 => ?_)
      · refine g_iload_n (q := 103) B dX8_runOf_102 rfl 2 rfl ?_
        refine g_if_ne (t := 110) (q := 106) B dX8_runOf_103 (by decide) rfl ⟨by omega, by omega⟩ (fun cq103 => ?_) (fun cq103 => ?_)
        · refine g_iload_n (q := 111) B dX8_runOf_110 rfl 2 rfl ?_
          refine g_iconst (q := 112) B dX8_runOf_111 rfl ?_
          refine g_icmp_ne (t := 120) (q := 115) B dX8_runOf_112 (by decide) rfl ⟨by omega, by omega⟩ ⟨by omega, by omega⟩ (fun cq112 => ?_) (fun cq112 => ?_)
          · refine g_iload_n (q := 121) B dX8_runOf_120 rfl 2 rfl ?_
            refine g_iconst (q := 122) B dX8_runOf_121 rfl ?_
            refine g_icmp_ne (t := 137) (q := 125) B dX8_runOf_122 (by decide) rfl ⟨by omega, by omega⟩ ⟨by omega, by omega⟩ (fun cq122 => ?_) (fun cq122 => ?_)
            · refine g_iload (q := 139) B dX8_runOf_137 rfl 5 rfl ?_
              refine g_iret B E dX8_runOf_139 ?_
              exact pC_0 (by rw [cd_runOf]; (repeat' split) <;> omega) (by (try simp only [us82_84] at *); rw [vl_runOf]; (repeat' split) <;> first | omega | rfl | exact mw_e S 84 (by omega) (by omega) | exact (rvG_n hw (by omega) (by omega) (show (q : Int) = fpF (mw S 84) r + plF (mw S 84) r by omega)).symm)
            · refine g_aload_n (q := 126) B dX8_runOf_125 rfl 0 rfl ?_
              refine g_get (n := 82) (ty := tyX8) (q := 129) (v := .ref (yA Y 84)) B dX8_runOf_126 rfl (us_eq _ _ _) rfl cls6 3 (by decide) w954 rfl ?_
              refine g_bipush (q := 131) B dX8_runOf_129 rfl (by decide) ?_
              refine g_iload_n (q := 132) B dX8_runOf_131 rfl 3 rfl ?_
              refine g_iadd (q := 133) B dX8_runOf_132 rfl ?_
              refine g_iald (n := 84) (q := 134) B dX8_runOf_133 rfl ((us_ne _ _ (by omega)).trans rfl) rfl (by decide) (by omega) (by omega) ?_
              refine g_goto (q := 139) B dX8_runOf_134 (by decide) ?_
              refine g_iret B E dX8_runOf_139 ?_
              exact pC_0 (by rw [cd_runOf]; (repeat' split) <;> omega) (by (try simp only [us82_84] at *); rw [vl_runOf]; (repeat' split) <;> first | omega | rfl | exact mw_e S 84 (by omega) (by omega) | exact (rvG_n hw (by omega) (by omega) (show (q : Int) = fpF (mw S 84) r + plF (mw S 84) r by omega)).symm)
          · refine g_iload (q := 117) B dX8_runOf_115 rfl 4 rfl ?_
            refine g_goto (q := 139) B dX8_runOf_117 (by decide) ?_
            refine g_iret B E dX8_runOf_139 ?_
            exact pC_0 (by rw [cd_runOf]; (repeat' split) <;> omega) (by (try simp only [us82_84] at *); rw [vl_runOf]; (repeat' split) <;> first | omega | rfl | exact mw_e S 84 (by omega) (by omega) | exact (rvG_n hw (by omega) (by omega) (show (q : Int) = fpF (mw S 84) r + plF (mw S 84) r by omega)).symm)
        · refine g_iload_n (q := 107) B dX8_runOf_106 rfl 3 rfl ?_
          refine g_goto (q := 139) B dX8_runOf_107 (by decide) ?_
          refine g_iret B E dX8_runOf_139 ?_
          exact pC_0 (by rw [cd_runOf]; (repeat' split) <;> omega) (by (try simp only [us82_84] at *); rw [vl_runOf]; (repeat' split) <;> first | omega | rfl | exact mw_e S 84 (by omega) (by omega) | exact (rvG_n hw (by omega) (by omega) (show (q : Int) = fpF (mw S 84) r + plF (mw S 84) r by omega)).symm)
      · refine g_iload (q := 77) B dX8_runOf_75 rfl 5 rfl ?_
        refine g_aload_n (q := 78) B dX8_runOf_77 rfl 0 rfl ?_
        refine g_get (n := 82) (ty := tyX8) (q := 81) (v := .ref (yA Y 84)) B dX8_runOf_78 rfl (us_eq _ _ _) rfl cls6 3 (by decide) w954 rfl ?_
        refine g_aload_n (q := 82) B dX8_runOf_81 rfl 0 rfl ?_
        refine g_get (n := 82) (ty := tyX8) (q := 85) (v := .ref (yA Y 84)) B dX8_runOf_82 rfl (us_eq _ _ _) rfl cls6 3 (by decide) w954 rfl ?_
        refine g_iload (q := 87) B dX8_runOf_85 rfl 6 rfl ?_
        refine g_callS (q := 90) (As := [.ref (yA Y 84), .int (iI ((q : Int)))]) (st := [.ref (yA Y 84), .int (iI (rvG (mw S 84) r q))]) B dX8_runOf_87 rfl (c_X8_jewelAt (l := xL X) (S := (us S 82 ((uq (S 82) 0 0)))) (Or.inl rfl) hwz ((q : Int)) (by omega) (by omega)) eX8_jewelAt w1077 (by decide) rfl rfl (Nat.le_of_ble_eq_true rfl) (g_kE ?_)
        have hj := jatF_in hw (p := (q : Int)) (by omega) (by rw [mw_0]; omega)
        rw [mw_0] at hj
        refine g_callS (q := 93) (As := [.ref (yA Y 84), .int (iI (jatF (mw (us S 82 ((uq (S 82) 0 0))) 84) ((q : Int))))]) (st := [.int (iI (rvG (mw S 84) r q))]) B dX8_runOf_90 rfl (c_X8_valueOf (l := xL X) (S := (us S 82 ((uq (S 82) 0 0)))) (Or.inl rfl) hwz (jatF (mw (us S 82 ((uq (S 82) 0 0))) 84) ((q : Int))) (by omega) (by omega)) eX8_valueOf w1080 (by decide) rfl rfl (Nat.le_of_ble_eq_true rfl) (g_kE ?_)
        refine g_iadd (q := 94) B dX8_runOf_93 rfl ?_
        refine g_istore (q := 96) B dX8_runOf_94 rfl (by decide) (L' := [(5, .int (iI ((rvG (mw S 84) r q) + (valF (mw (us S 82 ((uq (S 82) 0 0))) 84) (jatF (mw (us S 82 ((uq (S 82) 0 0))) 84) ((q : Int))))))), (0, .ref (yA Y 82)), (1, .int (iI r)), (2, .int (iI u)), (3, .int (iI (fpF (mw S 84) r))), (4, .int (iI (plF (mw S 84) r))), (6, .int (iI ((q : Int))))]) rfl ?_
        refine g_iinc (n := 6) (q := 99) B dX8_runOf_96 rfl rfl (by decide) (L' := [(6, .int (iI ((q : Int) + 1))), (5, .int (iI ((rvG (mw S 84) r q) + (valF (mw (us S 82 ((uq (S 82) 0 0))) 84) (jatF (mw (us S 82 ((uq (S 82) 0 0))) 84) ((q : Int))))))), (0, .ref (yA Y 82)), (1, .int (iI r)), (2, .int (iI u)), (3, .int (iI (fpF (mw S 84) r))), (4, .int (iI (plF (mw S 84) r)))]) rfl ?_
        refine g_goto (q := 66) B dX8_runOf_99 (by decide) ?_
        refine g_sub [2, 3, 4, 5, 6, 1, 0] rfl ?_
        exact ih (q + 1) _ _ _ _ (by rfl) (by rfl) (by rw [us82_84]; exact (rvG_s hw (by omega) (by omega) hq1 (by omega)).symm) (by first | rfl | omega) (by first | assumption | omega) (by first | assumption | omega) (by first | assumption | omega) (by first | assumption | omega) (by omega)
  refine g_aload_n (q := 1) B dX8_runOf_0 rfl 0 rfl ?_
  refine g_aload_n (q := 2) B dX8_runOf_1 rfl 0 rfl ?_
  refine g_get (n := 82) (ty := tyX8) (q := 5) (v := .ref (yA Y 84)) B dX8_runOf_2 rfl rfl rfl cls6 3 (by decide) w954 rfl ?_
  refine g_iload_n (q := 6) B dX8_runOf_5 rfl 1 rfl ?_
  refine g_callS (q := 9) (As := [.ref (yA Y 84), .int (iI r)]) (st := [.ref (yA Y 82)]) B dX8_runOf_6 rfl (c_X8_isRun (l := xL X) (S := S) (Or.inl rfl) (wf.b hw) r ⟨by omega, by omega⟩) eX8_isRun w1065 (by decide) rfl rfl (Nat.le_of_ble_eq_true rfl) (g_kE ?_)
  have := runsF_in (mw S 84)
  refine g_ifb_ne (t := 16) (q := 12) B dX8_runOf_9 (by decide) rfl (fun cq9 => ?_) (fun cq9 => ?_)
  · refine g_iload_n (q := 17) B dX8_runOf_16 rfl 2 rfl ?_
    refine g_i2l (q := 18) B dX8_runOf_17 rfl ⟨by omega, by omega⟩ ?_
    refine g_lconst (z := 0) (q := 19) B dX8_runOf_18 rfl rfl ?_
    refine g_ldc2 (z := 3) (q := 22) B dX8_runOf_19 rfl w1028 (by decide) ?_
    refine g_callS (q := 25) (As := [.long (lI u), .long (lI 0), .long (lI 3)]) (st := [.ref (yA Y 82)]) B dX8_runOf_22 rfl (c_X8_in (l := xL X) (S := S) u 0 3 ⟨by omega, by omega⟩ ⟨by omega, by omega⟩ ⟨by omega, by omega⟩) eX8_in w1001 (by decide) rfl rfl (Nat.le_of_ble_eq_true rfl) (g_kE ?_)
    refine g_ifb_eq (t := 32) (q := 28) B dX8_runOf_25 (by decide) rfl (fun cq25 => ?_) (fun cq25 => ?_)
    · refine g_iconst (q := 33) B dX8_runOf_32 rfl ?_
      refine g_callV (n := 82) (ty := tyX8) (q := 36) (As := [.int (iI 2)]) (st := []) B dX8_runOf_33 rfl (c_X8_refused (l := xL X) (S := S) 2 ⟨by omega, by omega⟩) eX8_refused w1004 (by decide) rfl rfl cls6 rfl rfl (Nat.le_of_ble_eq_true rfl) (g_kE ?_)
      have hwz : wf (mw (us S 82 ((uq (S 82) 0 2))) 84) := by rw [us82_84]; exact hw
      have e84_0 : (us S 82 ((uq (S 82) 0 2))) 84 0 = S 84 0 := rfl
      have e84_r : runsF (mw (us S 82 ((uq (S 82) 0 2))) 84) = runsF (mw S 84) := rfl
      refine g_ifb_eq (t := 41) (q := 39) B dX8_runOf_36 (by decide) rfl (fun cq36 => ?_) (fun cq36 => ?_)
      · exact absurd cq36 (by decide)
      · refine g_iconst (q := 40) B dX8_runOf_39 rfl ?_
        refine g_iret B E dX8_runOf_40 ?_
        exact pC_n 2 (by rw [cd_runOf]; (repeat' split) <;> omega) (by decide)
    · refine g_iconst (q := 29) B dX8_runOf_28 rfl ?_
      refine g_goto (q := 33) B dX8_runOf_29 (by decide) ?_
      refine g_callV (n := 82) (ty := tyX8) (q := 36) (As := [.int (iI 0)]) (st := []) B dX8_runOf_33 rfl (c_X8_refused (l := xL X) (S := S) 0 ⟨by omega, by omega⟩) eX8_refused w1004 (by decide) rfl rfl cls6 rfl rfl (Nat.le_of_ble_eq_true rfl) (g_kE ?_)
      have hwz : wf (mw (us S 82 ((uq (S 82) 0 0))) 84) := by rw [us82_84]; exact hw
      have e84_0 : (us S 82 ((uq (S 82) 0 0))) 84 0 = S 84 0 := rfl
      have e84_r : runsF (mw (us S 82 ((uq (S 82) 0 0))) 84) = runsF (mw S 84) := rfl
      refine g_ifb_eq (t := 41) (q := 39) B dX8_runOf_36 (by decide) rfl (fun cq36 => ?_) (fun cq36 => ?_)
      · refine g_aload_n (q := 42) B dX8_runOf_41 rfl 0 rfl ?_
        refine g_get (n := 82) (ty := tyX8) (q := 45) (v := .ref (yA Y 84)) B dX8_runOf_42 rfl (us_eq _ _ _) rfl cls6 3 (by decide) w954 rfl ?_
        refine g_iload_n (q := 46) B dX8_runOf_45 rfl 1 rfl ?_
        refine g_callS (q := 49) (As := [.ref (yA Y 84), .int (iI r)]) (st := []) B dX8_runOf_46 rfl (c_X8_firstOf (l := xL X) (S := (us S 82 ((uq (S 82) 0 0)))) (Or.inl rfl) hwz r (by omega) (by omega)) eX8_firstOf w1086 (by decide) rfl rfl (Nat.le_of_ble_eq_true rfl) (g_kE ?_)
        have hfp := fpF_in hwz (r := r) (by omega) (by omega)
        rw [mw_0] at hfp
        refine g_istore_n (q := 50) B dX8_runOf_49 rfl (by decide) (L' := [(3, .int (iI (fpF (mw (us S 82 ((uq (S 82) 0 0))) 84) r))), (0, .ref (yA Y 82)), (1, .int (iI r)), (2, .int (iI u))]) rfl ?_
        refine g_aload_n (q := 51) B dX8_runOf_50 rfl 1 rfl ?_
        refine g_get (n := 82) (ty := tyX8) (q := 54) (v := .ref (yA Y 84)) B dX8_runOf_51 rfl (us_eq _ _ _) rfl cls6 3 (by decide) w954 rfl ?_
        refine g_iload_n (q := 55) B dX8_runOf_54 rfl 2 rfl ?_
        refine g_callS (q := 58) (As := [.ref (yA Y 84), .int (iI r)]) (st := []) B dX8_runOf_55 rfl (c_X8_placesOf (l := xL X) (S := (us S 82 ((uq (S 82) 0 0)))) (Or.inl rfl) hwz r ⟨by omega, by omega⟩) eX8_placesOf w1131 (by decide) rfl rfl (Nat.le_of_ble_eq_true rfl) (g_kE ?_)
        refine g_istore (q := 60) B dX8_runOf_58 rfl (by decide) (L' := [(4, .int (iI (plF (mw (us S 82 ((uq (S 82) 0 0))) 84) r))), (3, .int (iI (fpF (mw (us S 82 ((uq (S 82) 0 0))) 84) r))), (0, .ref (yA Y 82)), (1, .int (iI r)), (2, .int (iI u))]) rfl ?_
        refine g_iconst (q := 61) B dX8_runOf_60 rfl ?_
        refine g_istore (q := 63) B dX8_runOf_61 rfl (by decide) (L' := [(5, .int (iI 0)), (4, .int (iI (plF (mw (us S 82 ((uq (S 82) 0 0))) 84) r))), (3, .int (iI (fpF (mw (us S 82 ((uq (S 82) 0 0))) 84) r))), (0, .ref (yA Y 82)), (1, .int (iI r)), (2, .int (iI u))]) rfl ?_
        refine g_iload_n (q := 64) B dX8_runOf_63 rfl 2 rfl ?_
        refine g_istore (q := 66) B dX8_runOf_64 rfl (by decide) (L' := [(6, .int (iI (fpF (mw (us S 82 ((uq (S 82) 0 0))) 84) r))), (5, .int (iI 0)), (4, .int (iI (plF (mw (us S 82 ((uq (S 82) 0 0))) 84) r))), (3, .int (iI (fpF (mw (us S 82 ((uq (S 82) 0 0))) 84) r))), (0, .ref (yA Y 82)), (1, .int (iI r)), (2, .int (iI u))]) rfl ?_
        refine g_sub [4, 5, 6, 3, 2, 1, 0] rfl ?_
        have hfp := fpF_in hw (r := r) (by omega) (by omega)
        have hp0 := plF_in hw r
        rw [us82_84]
        exact lp66 _ ((fpF (mw S 84) r).toNat) _ _ _ _ (by rfl) (by rfl) (by exact (rvG_0 hw (by omega) (by omega)).symm) (by omega) (by first | assumption | omega) (by first | assumption | omega) (by first | assumption | omega) (by first | assumption | omega) (Nat.lt_succ_self _)
      · exact absurd cq36 (by decide)
  · refine g_iconst (q := 13) B dX8_runOf_12 rfl ?_
    refine g_goto (q := 33) B dX8_runOf_13 (by decide) ?_
    refine g_callV (n := 82) (ty := tyX8) (q := 36) (As := [.int (iI 1)]) (st := []) B dX8_runOf_33 rfl (c_X8_refused (l := xL X) (S := S) 1 ⟨by omega, by omega⟩) eX8_refused w1004 (by decide) rfl rfl cls6 rfl rfl (Nat.le_of_ble_eq_true rfl) (g_kE ?_)
    have hwz : wf (mw (us S 82 ((uq (S 82) 0 1))) 84) := by rw [us82_84]; exact hw
    have e84_0 : (us S 82 ((uq (S 82) 0 1))) 84 0 = S 84 0 := rfl
    have e84_r : runsF (mw (us S 82 ((uq (S 82) 0 1))) 84) = runsF (mw S 84) := rfl
    refine g_ifb_eq (t := 41) (q := 39) B dX8_runOf_36 (by decide) rfl (fun cq36 => ?_) (fun cq36 => ?_)
    · exact absurd cq36 (by decide)
    · refine g_iconst (q := 40) B dX8_runOf_39 rfl ?_
      refine g_iret B E dX8_runOf_40 ?_
      exact pC_n 1 (by rw [cd_runOf]; (repeat' split) <;> omega) (by decide)
