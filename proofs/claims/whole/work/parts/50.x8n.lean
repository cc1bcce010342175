set_option maxHeartbeats 4000000 in
theorem c_X8_readJewel {Y : gY} {l : Launch} {S : SS} (hw : wf (mw S 85)) (hz : 0 ≤ S 82 1 ∧ S 82 1 ≤ 120) (hp : 0 ≤ S 82 3 ∧ S 82 3 ≤ 120) (ht : ∀ c : Int, 0 ≤ c → c < 120 → 0 ≤ S 83 c ∧ S 83 c ≤ 255) : gM Y l mX8_readJewel S [.ref (yA Y 82), .ref (yA Y 85)] (pV (.int (iI (rjO (S 83) (S 82 1) (S 82 3)))) (fun S' => S' 82 3 = rjP (S 83) (S 82 1) (S 82 3) ∧ (∀ c : Int, c ≠ 3 → c ≠ 4 → S' 82 c = S 82 c) ∧ (∀ m : Nat, m ≠ 85 → m ≠ 82 → S' m = S m) ∧ (rjO (S 83) (S 82 1) (S 82 3) = 1 → mw S' 85 = addG (mw S 85) (kdF (S 83) (S 82 1) (S 82 3)) (fgV (S 83) (S 82 1) (S 82 3 + 1) 1 1 9) ∧ S' 82 4 = S 82 4 + (if S 85 0 < 16 then 0 else 1)))) := by
  refine gM_of (by decide) (Nat.le_of_ble_eq_true rfl) ?_
  intro X hXl B E
  obtain ⟨⟨hn0, hn16⟩, ⟨hb0, hb1⟩, ⟨hm0, hm1⟩, ⟨hs0, hs1⟩, ⟨hc0, hc1⟩, hct, hkw, how⟩ := wfT hw
  have hts := ht (S 82 3) hp.1
  show gW Y X S 0 [(0, .ref (yA Y 82)), (1, .ref (yA Y 85))] []
  refine g_aload_n (q := 1) B dX8_readJewel_0 rfl 0 rfl ?_
  refine g_get (n := 82) (ty := tyX8) (q := 4) (v := .int (iI (S 82 3))) B dX8_readJewel_1 rfl rfl rfl cls6 11 (by decide) w962 rfl ?_
  refine g_aload_n (q := 5) B dX8_readJewel_4 rfl 0 rfl ?_
  refine g_get (n := 82) (ty := tyX8) (q := 8) (v := .int (iI (S 82 1))) B dX8_readJewel_5 rfl rfl rfl cls6 2 (by decide) w953 rfl ?_
  refine g_icmp_ge (t := 26) (q := 11) B dX8_readJewel_8 (by decide) rfl ⟨by omega, by omega⟩ ⟨by omega, by omega⟩ (fun cq8 => ?_) (fun cq8 => ?_)
  · refine g_iconst (q := 27) B dX8_readJewel_26 rfl ?_
    refine g_istore_n (q := 28) B dX8_readJewel_27 rfl (by decide) (L' := [(2, .int (iI (-1))), (0, .ref (yA Y 82)), (1, .ref (yA Y 85))]) rfl ?_
    refine g_iload_n (q := 29) B dX8_readJewel_28 rfl 0 rfl ?_
    refine g_i2l (q := 30) B dX8_readJewel_29 rfl ⟨by omega, by omega⟩ ?_
    refine g_lconst (z := 0) (q := 31) B dX8_readJewel_30 rfl rfl ?_
    refine g_ldc2 (z := 3) (q := 34) B dX8_readJewel_31 rfl w1028 (by decide) ?_
    refine g_callS (q := 37) (As := [.long (lI (-1)), .long (lI 0), .long (lI 3)]) (st := []) B dX8_readJewel_34 rfl (c_X8_in (l := xL X) (S := S) (-1) 0 3 ⟨by omega, by omega⟩ ⟨by omega, by omega⟩ ⟨by omega, by omega⟩) eX8_in w1001 (by decide) rfl rfl (Nat.le_of_ble_eq_true rfl) (g_kE ?_)
    refine g_ifb_ne (t := 42) (q := 40) B dX8_readJewel_37 (by decide) rfl (fun cq37 => ?_) (fun cq37 => ?_)
    · exact absurd cq37 (by omega)
    · refine g_iconst (q := 41) B dX8_readJewel_40 rfl ?_
      refine g_zret B E dX8_readJewel_41 rfl (by decide) ?_
      have ek : kdF (S 83) (S 82 1) (S 82 3) = -1 := by exact if_neg (by omega)
      have eO : rjO (S 83) (S 82 1) (S 82 3) = 0 := by rw [rjO, if_neg (by omega)]
      refine ⟨congrArg (fun z => some (Value.int (iI z))) (show (0 : Int) = _ from eO.symm), (show _ = rjP _ _ _ by rw [rjP, if_neg (by omega)]), fun c h3 h4 => by simp only [us_eq, us_ne _ _ (show (82 : Nat) ≠ 85 by decide), uq_ne _ _ h3, uq_ne _ _ h4], fun m h5 h2 => by simp only [us_ne _ _ h2, us_ne _ _ h5], fun h1 => ?_⟩
      rw [eO] at h1; exact absurd h1 (by decide)
  · refine g_aload_n (q := 12) B dX8_readJewel_11 rfl 0 rfl ?_
    refine g_get (n := 82) (ty := tyX8) (q := 15) (v := .ref (yA Y 83)) B dX8_readJewel_12 rfl rfl rfl cls6 1 (by decide) w952 rfl ?_
    refine g_aload_n (q := 16) B dX8_readJewel_15 rfl 0 rfl ?_
    refine g_get (n := 82) (ty := tyX8) (q := 19) (v := .int (iI (S 82 3))) B dX8_readJewel_16 rfl rfl rfl cls6 11 (by decide) w962 rfl ?_
    refine g_iald (n := 83) (q := 20) B dX8_readJewel_19 rfl rfl rfl (by decide) (by omega) (by omega) ?_
    refine g_bipush (q := 22) B dX8_readJewel_20 rfl (by decide) ?_
    refine g_isub (q := 23) B dX8_readJewel_22 rfl ?_
    refine g_goto (q := 27) B dX8_readJewel_23 (by decide) ?_
    refine g_istore_n (q := 28) B dX8_readJewel_27 rfl (by decide) (L' := [(2, .int (iI ((S 83 (S 82 3)) - 97))), (0, .ref (yA Y 82)), (1, .ref (yA Y 85))]) rfl ?_
    refine g_iload_n (q := 29) B dX8_readJewel_28 rfl 0 rfl ?_
    refine g_i2l (q := 30) B dX8_readJewel_29 rfl ⟨by omega, by omega⟩ ?_
    refine g_lconst (z := 0) (q := 31) B dX8_readJewel_30 rfl rfl ?_
    refine g_ldc2 (z := 3) (q := 34) B dX8_readJewel_31 rfl w1028 (by decide) ?_
    refine g_callS (q := 37) (As := [.long (lI ((S 83 (S 82 3)) - 97)), .long (lI 0), .long (lI 3)]) (st := []) B dX8_readJewel_34 rfl (c_X8_in (l := xL X) (S := S) ((S 83 (S 82 3)) - 97) 0 3 ⟨by omega, by omega⟩ ⟨by omega, by omega⟩ ⟨by omega, by omega⟩) eX8_in w1001 (by decide) rfl rfl (Nat.le_of_ble_eq_true rfl) (g_kE ?_)
    refine g_ifb_ne (t := 42) (q := 40) B dX8_readJewel_37 (by decide) rfl (fun cq37 => ?_) (fun cq37 => ?_)
    · refine g_aload_n (q := 43) B dX8_readJewel_42 rfl 1 rfl ?_
      refine g_dup (q := 44) B dX8_readJewel_43 rfl rfl ?_
      refine g_get (n := 82) (ty := tyX8) (q := 47) (v := .int (iI (S 82 3))) B dX8_readJewel_44 rfl rfl rfl cls6 11 (by decide) w962 rfl ?_
      refine g_iconst (q := 48) B dX8_readJewel_47 rfl ?_
      refine g_iadd (q := 49) B dX8_readJewel_48 rfl ?_
      refine g_put (n := 82) (ty := tyX8) (q := 52) B dX8_readJewel_49 rfl rfl rfl cls6 11 (by decide) w962 rfl rfl rfl (Nat.le_of_ble_eq_true rfl) ((uq (S 82) 3 ((S 82 3) + 1))) rfl ?_
      refine g_aload_n (q := 53) B dX8_readJewel_52 rfl 1 rfl ?_
      refine g_iconst (q := 54) B dX8_readJewel_53 rfl ?_
      refine g_iconst (q := 55) B dX8_readJewel_54 rfl ?_
      refine g_iconst (q := 56) B dX8_readJewel_55 rfl ?_
      refine g_bipush (q := 58) B dX8_readJewel_56 rfl (by decide) ?_
      refine g_callV (n := 82) (ty := tyX8) (q := 61) (As := [.int (iI 0), .int (iI 1), .int (iI 1), .int (iI 9)]) (st := []) B dX8_readJewel_58 rfl (c_fig (l := xL X) (S := (us S 82 ((uq (S 82) 3 ((S 82 3) + 1))))) (S 82 3 + 1) 1 1 9 rfl (by omega) (by omega) (by omega) hz (by omega) ht) eX8_figures w1029 (by decide) (us_eq _ _ _) rfl cls6 rfl rfl (Nat.le_of_ble_eq_true rfl) (g_kE ?_)
      have hfv119 := fgV_in (S 83) (S 82 1) (S 82 3 + 1) 1 (lo := 1) (hi := 9) (by decide)
      have hfp119 : (S 82 3 + 1) ≤ S 82 1 → (S 82 3 + 1) ≤ fgP (S 83) (S 82 1) (S 82 3 + 1) 1 1 9 ∧ fgP (S 83) (S 82 1) (S 82 3 + 1) 1 1 9 ≤ S 82 1 := fun h => fgP_in 1 1 9 h
      refine g_istore_n (q := 62) B dX8_readJewel_61 rfl (by decide) (L' := [(3, .int (iI (fgV (S 83) (S 82 1) (S 82 3 + 1) 1 1 9))), (2, .int (iI ((S 83 (S 82 3)) - 97))), (0, .ref (yA Y 82)), (1, .ref (yA Y 85))]) rfl ?_
      refine g_iload_n (q := 63) B dX8_readJewel_62 rfl 0 rfl ?_
      refine g_iconst (q := 64) B dX8_readJewel_63 rfl ?_
      refine g_icmp_eq (t := 100) (q := 67) B dX8_readJewel_64 (by decide) rfl ⟨by omega, by omega⟩ ⟨by omega, by omega⟩ (fun cq64 => ?_) (fun cq64 => ?_)
      · refine g_iconst (q := 101) B dX8_readJewel_100 rfl ?_
        refine g_zret B E dX8_readJewel_101 rfl (by decide) ?_
        have ek : kdF (S 83) (S 82 1) (S 82 3) = (S 83 (S 82 3)) - 97 := by exact if_pos (by omega)
        have eP : rjP (S 83) (S 82 1) (S 82 3) = fgP (S 83) (S 82 1) (S 82 3 + 1) 1 1 9 := by rw [rjP, if_pos (by omega)]
        have eO : rjO (S 83) (S 82 1) (S 82 3) = 0 := by rw [rjO, if_pos (by omega), yes, if_pos (by omega)]
        refine ⟨congrArg (fun z => some (Value.int (iI z))) (show (0 : Int) = _ from eO.symm), eP.symm, fun c h3 h4 => by simp only [us_eq, us_ne _ _ (show (82 : Nat) ≠ 85 by decide), uq_ne _ _ h3, uq_ne _ _ h4], fun m h5 h2 => by simp only [us_ne _ _ h2, us_ne _ _ h5], fun h1 => ?_⟩
        rw [eO] at h1; exact absurd h1 (by decide)
      · refine g_aload_n (q := 68) B dX8_readJewel_67 rfl 2 rfl ?_
        refine g_aload_n (q := 69) B dX8_readJewel_68 rfl 3 rfl ?_
        refine g_iconst (q := 70) B dX8_readJewel_69 rfl ?_
        refine g_iald (n := 85) (q := 71) B dX8_readJewel_70 rfl ((us_ne _ _ (by omega)).trans ((us_ne _ _ (by omega)).trans rfl)) rfl (by decide) (by omega) (by omega) ?_
        refine g_bipush (q := 73) B dX8_readJewel_71 rfl (by decide) ?_
        refine g_icmp_ge (t := 89) (q := 76) B dX8_readJewel_73 (by decide) rfl ⟨by omega, by omega⟩ ⟨by omega, by omega⟩ (fun cq73 => ?_) (fun cq73 => ?_)
        · refine g_iconst (q := 90) B dX8_readJewel_89 rfl ?_
          refine g_callV (n := 82) (ty := tyX8) (q := 93) (As := [.int (iI 0)]) (st := []) B dX8_readJewel_90 rfl (c_X8_done (l := xL X) (S := (us (us S 82 ((uq (S 82) 3 ((S 82 3) + 1)))) 82 ((uq ((uq (S 82) 3 ((S 82 3) + 1))) 3 (fgP (S 83) (S 82 1) (S 82 3 + 1) 1 1 9))))) 0 (by omega)) eX8_done w1037 (by decide) (us_eq _ _ _) rfl cls6 rfl rfl (Nat.le_of_ble_eq_true rfl) (g_kE ?_)
          refine g_if_eq (t := 100) (q := 96) B dX8_readJewel_93 (by decide) rfl ⟨by omega, by omega⟩ (fun cq93 => ?_) (fun cq93 => ?_)
          · exact absurd cq93 (by omega)
          · refine g_iconst (q := 97) B dX8_readJewel_96 rfl ?_
            refine g_goto (q := 101) B dX8_readJewel_97 (by decide) ?_
            refine g_zret B E dX8_readJewel_101 rfl (by decide) ?_
            have ek : kdF (S 83) (S 82 1) (S 82 3) = (S 83 (S 82 3)) - 97 := by exact if_pos (by omega)
            have eP : rjP (S 83) (S 82 1) (S 82 3) = fgP (S 83) (S 82 1) (S 82 3 + 1) 1 1 9 := by rw [rjP, if_pos (by omega)]
            have eO : rjO (S 83) (S 82 1) (S 82 3) = 1 := by rw [rjO, if_pos (by omega), yes, if_neg (by omega)]
            refine ⟨congrArg (fun z => some (Value.int (iI z))) (show (1 : Int) = _ from eO.symm), eP.symm, fun c h3 h4 => by simp only [us_eq, us_ne _ _ (show (82 : Nat) ≠ 85 by decide), uq_ne _ _ h3, uq_ne _ _ h4], fun m h5 h2 => by simp only [us_ne _ _ h2, us_ne _ _ h5], fun h1 => ?_⟩
            refine ⟨by simp only [mw_ne (show (85 : Nat) ≠ 82 by decide)]; rw [addG, if_neg (by rw [mw_0]; omega)], ?_⟩
            show S 82 4 + (if (0 : Int) = 0 then 1 else 0) = S 82 4 + (if S 85 0 < 16 then 0 else 1)
            rw [if_pos rfl, if_neg (by omega)]
        · refine g_aload_n (q := 77) B dX8_readJewel_76 rfl 3 rfl ?_
          refine g_iload_n (q := 78) B dX8_readJewel_77 rfl 1 rfl ?_
          refine g_iload_n (q := 79) B dX8_readJewel_78 rfl 0 rfl ?_
          have hwx : wf (mw (us (us S 82 ((uq (S 82) 3 ((S 82 3) + 1)))) 82 ((uq ((uq (S 82) 3 ((S 82 3) + 1))) 3 (fgP (S 83) (S 82 1) (S 82 3 + 1) 1 1 9)))) 85) := hw
          have ex_0 : (us (us S 82 ((uq (S 82) 3 ((S 82 3) + 1)))) 82 ((uq ((uq (S 82) 3 ((S 82 3) + 1))) 3 (fgP (S 83) (S 82 1) (S 82 3 + 1) 1 1 9)))) 85 0 = S 85 0 := rfl
          have ex_1 : (us (us S 82 ((uq (S 82) 3 ((S 82 3) + 1)))) 82 ((uq ((uq (S 82) 3 ((S 82 3) + 1))) 3 (fgP (S 83) (S 82 1) (S 82 3 + 1) 1 1 9)))) 85 1 = S 85 1 := rfl
          have ex_r : runsF (mw (us (us S 82 ((uq (S 82) 3 ((S 82 3) + 1)))) 82 ((uq ((uq (S 82) 3 ((S 82 3) + 1))) 3 (fgP (S 83) (S 82 1) (S 82 3 + 1) 1 1 9)))) 85) = runsF (mw S 85) := rfl
          refine g_callS (q := 82) (As := [.ref (yA Y 85), .int (iI ((S 83 (S 82 3)) - 97)), .int (iI (fgV (S 83) (S 82 1) (S 82 3 + 1) 1 1 9))]) (st := [.ref (yA Y 82)]) B dX8_readJewel_79 rfl (c_X8_jewelOn (l := xL X) (S := (us (us S 82 ((uq (S 82) 3 ((S 82 3) + 1)))) 82 ((uq ((uq (S 82) 3 ((S 82 3) + 1))) 3 (fgP (S 83) (S 82 1) (S 82 3 + 1) 1 1 9))))) (Or.inr rfl) hwx ((S 83 (S 82 3)) - 97) (fgV (S 83) (S 82 1) (S 82 3 + 1) 1 1 9) (by omega)) eX8_jewelOn w1034 (by decide) rfl rfl (Nat.le_of_ble_eq_true rfl) (g_kV (fun Sy hSy => ?_))
          obtain ⟨hvSy, hfSy⟩ := hSy
          refine g_if_lt (t := 89) (q := 85) B dX8_readJewel_82 (by decide) rfl ⟨by omega, by omega⟩ (fun cq82 => ?_) (fun cq82 => ?_)
          · exact absurd cq82 (by omega)
          · refine g_iconst (q := 86) B dX8_readJewel_85 rfl ?_
            refine g_goto (q := 90) B dX8_readJewel_86 (by decide) ?_
            refine g_callV (n := 82) (ty := tyX8) (q := 93) (As := [.int (iI 1)]) (st := []) B dX8_readJewel_90 rfl (c_X8_done (l := xL X) (S := Sy) 1 (by omega)) eX8_done w1037 (by decide) rfl rfl cls6 rfl rfl (Nat.le_of_ble_eq_true rfl) (g_kE ?_)
            refine g_if_eq (t := 100) (q := 96) B dX8_readJewel_93 (by decide) rfl ⟨by omega, by omega⟩ (fun cq93 => ?_) (fun cq93 => ?_)
            · exact absurd cq93 (by omega)
            · refine g_iconst (q := 97) B dX8_readJewel_96 rfl ?_
              refine g_goto (q := 101) B dX8_readJewel_97 (by decide) ?_
              refine g_zret B E dX8_readJewel_101 rfl (by decide) ?_
              have ek : kdF (S 83) (S 82 1) (S 82 3) = (S 83 (S 82 3)) - 97 := by exact if_pos (by omega)
              have eP : rjP (S 83) (S 82 1) (S 82 3) = fgP (S 83) (S 82 1) (S 82 3 + 1) 1 1 9 := by rw [rjP, if_pos (by omega)]
              have eO : rjO (S 83) (S 82 1) (S 82 3) = 1 := by rw [rjO, if_pos (by omega), yes, if_neg (by omega)]
              have e82 := hfSy 82 (by decide)
              refine ⟨congrArg (fun z => some (Value.int (iI z))) (show (1 : Int) = _ from eO.symm), (congrFun e82 3).trans (eP.symm), fun c h3 h4 => by simp only [us_eq, e82, uq_ne _ _ h3, uq_ne _ _ h4], fun m h5 h2 => by simp only [us_ne _ _ h2, hfSy m h5], fun h1 => ?_⟩
              refine ⟨by rw [mw_ne (by decide), hvSy, addG, if_pos ⟨by omega, by omega, by rw [mw_0]; omega⟩, ek]; rfl, ?_⟩
              have e4 := congrFun e82 4
              show Sy 82 4 + (if (1 : Int) = 0 then 1 else 0) = S 82 4 + (if S 85 0 < 16 then 0 else 1)
              rw [if_neg (by decide), if_pos (by omega)]
              exact congrArg (· + 0) e4
    · refine g_iconst (q := 41) B dX8_readJewel_40 rfl ?_
      refine g_zret B E dX8_readJewel_41 rfl (by decide) ?_
      have ek : kdF (S 83) (S 82 1) (S 82 3) = (S 83 (S 82 3)) - 97 := by exact if_pos (by omega)
      have eO : rjO (S 83) (S 82 1) (S 82 3) = 0 := by rw [rjO, if_neg (by omega)]
      refine ⟨congrArg (fun z => some (Value.int (iI z))) (show (0 : Int) = _ from eO.symm), (show _ = rjP _ _ _ by rw [rjP, if_neg (by omega)]), fun c h3 h4 => by simp only [us_eq, us_ne _ _ (show (82 : Nat) ≠ 85 by decide), uq_ne _ _ h3, uq_ne _ _ h4], fun m h5 h2 => by simp only [us_ne _ _ h2, us_ne _ _ h5], fun h1 => ?_⟩
      rw [eO] at h1; exact absurd h1 (by decide)
set_option maxHeartbeats 4000000 in
theorem c_X8_readCommand {Y : gY} {l : Launch} {S : SS} (hw : wf (mw S 85)) (hz : 0 ≤ S 82 1 ∧ S 82 1 ≤ 120) (hp : 0 ≤ S 82 3 ∧ S 82 3 ≤ 120) (ht : ∀ c : Int, 0 ≤ c → c < 120 → 0 ≤ S 83 c ∧ S 83 c ≤ 255) (hlt : S 82 3 < S 82 1) : gM Y l mX8_readCommand S [.ref (yA Y 82), .ref (yA Y 85)] (pV (.int (iI (kO (S 83 (S 82 3)) (S 83) (S 82 1) (S 82 3 + 1)))) (fun S' => S' 82 3 = kP (S 83 (S 82 3)) (S 83) (S 82 1) (S 82 3 + 1) ∧ (∀ c : Int, c ≠ 3 → c ≠ 4 → S' 82 c = S 82 c) ∧ (∀ m : Nat, m ≠ 85 → m ≠ 82 → S' m = S m) ∧ (kO (S 83 (S 82 3)) (S 83) (S 82 1) (S 82 3 + 1) = 1 → mw S' 85 = kG (S 83 (S 82 3)) (S 83) (S 82 1) (S 82 3 + 1) (mw S 85) ∧ S' 82 4 = S 82 4 + kB (S 83 (S 82 3)) (S 83) (S 82 1) (S 82 3 + 1) (mw S 85)))) := by
  refine gM_of (by decide) (Nat.le_of_ble_eq_true rfl) ?_
  intro X hXl B E
  obtain ⟨⟨hn0, hn16⟩, ⟨hb0, hb1⟩, ⟨hm0, hm1⟩, ⟨hs0, hs1⟩, ⟨hc0, hc1⟩, hct, hkw, how⟩ := wfT hw
  have hts := ht (S 82 3) hp.1 (by omega)
  have m0 : mw S 85 0 = S 85 0 := rfl
  have hrr := runsF_in (mw S 85)
  show gW Y X S 0 [(0, .ref (yA Y 82)), (1, .ref (yA Y 85))] []
  refine g_aload_n (q := 1) B dX8_readCommand_0 rfl 0 rfl ?_
  refine g_get (n := 82) (ty := tyX8) (q := 4) (v := .ref (yA Y 83)) B dX8_readCommand_1 rfl rfl rfl cls6 1 (by decide) w952 rfl ?_
  refine g_aload_n (q := 5) B dX8_readCommand_4 rfl 0 rfl ?_
  refine g_get (n := 82) (ty := tyX8) (q := 8) (v := .int (iI (S 82 3))) B dX8_readCommand_5 rfl rfl rfl cls6 11 (by decide) w962 rfl ?_
  refine g_iald (n := 83) (q := 9) B dX8_readCommand_8 rfl rfl rfl (by decide) (by omega) (by omega) ?_
  refine g_istore_n (q := 10) B dX8_readCommand_9 rfl (by decide) (L' := [(2, .int (iI (S 83 (S 82 3)))), (0, .ref (yA Y 82)), (1, .ref (yA Y 85))]) rfl ?_
  refine g_aload_n (q := 11) B dX8_readCommand_10 rfl 1 rfl ?_
  refine g_dup (q := 12) B dX8_readCommand_11 rfl rfl ?_
  refine g_get (n := 82) (ty := tyX8) (q := 15) (v := .int (iI (S 82 3))) B dX8_readCommand_12 rfl rfl rfl cls6 11 (by decide) w962 rfl ?_
  refine g_iconst (q := 16) B dX8_readCommand_15 rfl ?_
  refine g_iadd (q := 17) B dX8_readCommand_16 rfl ?_
  refine g_put (n := 82) (ty := tyX8) (q := 20) B dX8_readCommand_17 rfl rfl rfl cls6 11 (by decide) w962 rfl rfl rfl (Nat.le_of_ble_eq_true rfl) ((uq (S 82) 3 ((S 82 3) + 1))) rfl ?_
  refine g_iload_n (q := 21) B dX8_readCommand_20 rfl 0 rfl ?_
  rcases (show (S 83 (S 82 3)) = 98 ∨ (S 83 (S 82 3)) = 99 ∨ (S 83 (S 82 3)) = 100 ∨ (S 83 (S 82 3)) = 103 ∨ (S 83 (S 82 3)) = 106 ∨ (S 83 (S 82 3)) = 109 ∨ (S 83 (S 82 3)) = 114 ∨ (S 83 (S 82 3)) = 115 ∨ (S 83 (S 82 3)) = 116 ∨ ((S 83 (S 82 3)) ≠ 98 ∧ (S 83 (S 82 3)) ≠ 99 ∧ (S 83 (S 82 3)) ≠ 100 ∧ (S 83 (S 82 3)) ≠ 103 ∧ (S 83 (S 82 3)) ≠ 106 ∧ (S 83 (S 82 3)) ≠ 109 ∧ (S 83 (S 82 3)) ≠ 114 ∧ (S 83 (S 82 3)) ≠ 115 ∧ (S 83 (S 82 3)) ≠ 116) by omega) with cq21 | cq21 | cq21 | cq21 | cq21 | cq21 | cq21 | cq21 | cq21 | cq21
  · refine g_tsIn (q := 118) B 98 dX8_readCommand_21 cq21 ⟨by decide, by decide, by decide, by decide⟩ rfl (by decide) ?_
    refine g_aload_n (q := 119) B dX8_readCommand_118 rfl 1 rfl ?_
    refine g_iconst (q := 120) B dX8_readCommand_119 rfl ?_
    refine g_iconst (q := 121) B dX8_readCommand_120 rfl ?_
    refine g_iconst (q := 122) B dX8_readCommand_121 rfl ?_
    refine g_bipush (q := 124) B dX8_readCommand_122 rfl (by decide) ?_
    refine g_callV (n := 82) (ty := tyX8) (q := 127) (As := [.int (iI 0), .int (iI 2), .int (iI 0), .int (iI 15)]) (st := []) B dX8_readCommand_124 rfl (c_fig (l := xL X) (S := (us S 82 ((uq (S 82) 3 ((S 82 3) + 1))))) (S 82 3 + 1) 2 0 15 rfl (by omega) (by omega) (by omega) hz (by omega) ht) eX8_figures w1029 (by decide) (us_eq _ _ _) rfl cls6 rfl rfl (Nat.le_of_ble_eq_true rfl) (g_kE ?_)
    have hfv2015 := fgV_in (S 83) (S 82 1) (S 82 3 + 1) 2 (lo := 0) (hi := 15) (by decide)
    have hfp2015 : (S 82 3 + 1) ≤ S 82 1 → (S 82 3 + 1) ≤ fgP (S 83) (S 82 1) (S 82 3 + 1) 2 0 15 ∧ fgP (S 83) (S 82 1) (S 82 3 + 1) 2 0 15 ≤ S 82 1 := fun h => fgP_in 2 0 15 h
    refine g_istore_n (q := 128) B dX8_readCommand_127 rfl (by decide) (L' := [(3, .int (iI (fgV (S 83) (S 82 1) (S 82 3 + 1) 2 0 15))), (2, .int (iI (S 83 (S 82 3)))), (0, .ref (yA Y 82)), (1, .ref (yA Y 85))]) rfl ?_
    refine g_iload_n (q := 129) B dX8_readCommand_128 rfl 0 rfl ?_
    refine g_iconst (q := 130) B dX8_readCommand_129 rfl ?_
    refine g_icmp_eq (t := 165) (q := 133) B dX8_readCommand_130 (by decide) rfl ⟨by omega, by omega⟩ ⟨by omega, by omega⟩ (fun cq130 => ?_) (fun cq130 => ?_)
    · refine g_iconst (q := 166) B dX8_readCommand_165 rfl ?_
      refine g_zret B E dX8_readCommand_166 rfl (by decide) ?_
      have eO : kO (S 83 (S 82 3)) (S 83) (S 82 1) (S 82 3 + 1) = 0 := by rw [cq21]; show yes (fgV (S 83) (S 82 1) (S 82 3 + 1) 2 0 15) = 0; rw [yes, if_pos (by omega)]
      refine ⟨congrArg (fun z => some (Value.int (iI z))) (show (0 : Int) = _ from eO.symm), (show _ = kP (S 83 (S 82 3)) (S 83) (S 82 1) (S 82 3 + 1) by rw [cq21]; rfl), fun c h3 h4 => by simp only [us_eq, us_ne _ _ (show (82 : Nat) ≠ 85 by decide), uq_ne _ _ h3, uq_ne _ _ h4], fun m h5 h2 => by simp only [us_ne _ _ h2, us_ne _ _ h5], fun h1 => ?_⟩
      rw [eO] at h1; exact absurd h1 (by decide)
    · refine g_aload_n (q := 134) B dX8_readCommand_133 rfl 2 rfl ?_
      refine g_aload_n (q := 135) B dX8_readCommand_134 rfl 3 rfl ?_
      refine g_iload_n (q := 136) B dX8_readCommand_135 rfl 0 rfl ?_
      have hwx : wf (mw (us (us S 82 ((uq (S 82) 3 ((S 82 3) + 1)))) 82 ((uq ((uq (S 82) 3 ((S 82 3) + 1))) 3 (fgP (S 83) (S 82 1) (S 82 3 + 1) 2 0 15)))) 85) := hw
      have ex_0 : (us (us S 82 ((uq (S 82) 3 ((S 82 3) + 1)))) 82 ((uq ((uq (S 82) 3 ((S 82 3) + 1))) 3 (fgP (S 83) (S 82 1) (S 82 3 + 1) 2 0 15)))) 85 0 = S 85 0 := rfl
      have ex_1 : (us (us S 82 ((uq (S 82) 3 ((S 82 3) + 1)))) 82 ((uq ((uq (S 82) 3 ((S 82 3) + 1))) 3 (fgP (S 83) (S 82 1) (S 82 3 + 1) 2 0 15)))) 85 1 = S 85 1 := rfl
      have ex_r : runsF (mw (us (us S 82 ((uq (S 82) 3 ((S 82 3) + 1)))) 82 ((uq ((uq (S 82) 3 ((S 82 3) + 1))) 3 (fgP (S 83) (S 82 1) (S 82 3 + 1) 2 0 15)))) 85) = runsF (mw S 85) := rfl
      refine g_callS (q := 139) (As := [.ref (yA Y 85), .int (iI (fgV (S 83) (S 82 1) (S 82 3 + 1) 2 0 15))]) (st := [.ref (yA Y 82)]) B dX8_readCommand_136 rfl (c_X8_isJewel (l := xL X) (S := (us (us S 82 ((uq (S 82) 3 ((S 82 3) + 1)))) 82 ((uq ((uq (S 82) 3 ((S 82 3) + 1))) 3 (fgP (S 83) (S 82 1) (S 82 3 + 1) 2 0 15))))) (Or.inr rfl) (wf.b hwx) (fgV (S 83) (S 82 1) (S 82 3 + 1) 2 0 15) ⟨by omega, by omega⟩) eX8_isJewel w1041 (by decide) rfl rfl (Nat.le_of_ble_eq_true rfl) (g_kE ?_)
      refine g_ifb_eq (t := 154) (q := 142) B dX8_readCommand_139 (by decide) rfl (fun cq139 => ?_) (fun cq139 => ?_)
      · refine g_iconst (q := 155) B dX8_readCommand_154 rfl ?_
        refine g_callV (n := 82) (ty := tyX8) (q := 158) (As := [.int (iI 0)]) (st := []) B dX8_readCommand_155 rfl (c_X8_done (l := xL X) (S := (us (us S 82 ((uq (S 82) 3 ((S 82 3) + 1)))) 82 ((uq ((uq (S 82) 3 ((S 82 3) + 1))) 3 (fgP (S 83) (S 82 1) (S 82 3 + 1) 2 0 15))))) 0 (by omega)) eX8_done w1037 (by decide) (us_eq _ _ _) rfl cls6 rfl rfl (Nat.le_of_ble_eq_true rfl) (g_kE ?_)
        refine g_if_eq (t := 165) (q := 161) B dX8_readCommand_158 (by decide) rfl ⟨by omega, by omega⟩ (fun cq158 => ?_) (fun cq158 => ?_)
        · exact absurd cq158 (by omega)
        · refine g_iconst (q := 162) B dX8_readCommand_161 rfl ?_
          refine g_goto (q := 166) B dX8_readCommand_162 (by decide) ?_
          refine g_zret B E dX8_readCommand_166 rfl (by decide) ?_
          have eO : kO (S 83 (S 82 3)) (S 83) (S 82 1) (S 82 3 + 1) = 1 := by rw [cq21]; show yes (fgV (S 83) (S 82 1) (S 82 3 + 1) 2 0 15) = 1; rw [yes, if_neg (by omega)]
          have eB : kB (S 83 (S 82 3)) (S 83) (S 82 1) (S 82 3 + 1) (mw S 85) = 1 := by rw [cq21]; show (if fgV (S 83) (S 82 1) (S 82 3 + 1) 2 0 15 < S 85 0 then 0 else 1) = (1 : Int); exact if_neg (by omega)
          refine ⟨congrArg (fun z => some (Value.int (iI z))) (show (1 : Int) = _ from eO.symm), (show _ = kP (S 83 (S 82 3)) (S 83) (S 82 1) (S 82 3 + 1) by rw [cq21]; rfl), fun c h3 h4 => by simp only [us_eq, us_ne _ _ (show (82 : Nat) ≠ 85 by decide), uq_ne _ _ h3, uq_ne _ _ h4], fun m h5 h2 => by simp only [us_ne _ _ h2, us_ne _ _ h5], fun h1 => ?_⟩
          refine ⟨by rw [cq21]; show _ = brkG (mw S 85) (fgV (S 83) (S 82 1) (S 82 3 + 1) 2 0 15); simp only [mw_ne (show (85 : Nat) ≠ 82 by decide)]; rw [brkG, if_neg (by rw [mw_0]; omega)], ?_⟩
          rw [eB]
          rfl
      · refine g_aload_n (q := 143) B dX8_readCommand_142 rfl 3 rfl ?_
        refine g_iload_n (q := 144) B dX8_readCommand_143 rfl 0 rfl ?_
        have hwx : wf (mw (us (us S 82 ((uq (S 82) 3 ((S 82 3) + 1)))) 82 ((uq ((uq (S 82) 3 ((S 82 3) + 1))) 3 (fgP (S 83) (S 82 1) (S 82 3 + 1) 2 0 15)))) 85) := hw
        have ex_0 : (us (us S 82 ((uq (S 82) 3 ((S 82 3) + 1)))) 82 ((uq ((uq (S 82) 3 ((S 82 3) + 1))) 3 (fgP (S 83) (S 82 1) (S 82 3 + 1) 2 0 15)))) 85 0 = S 85 0 := rfl
        have ex_1 : (us (us S 82 ((uq (S 82) 3 ((S 82 3) + 1)))) 82 ((uq ((uq (S 82) 3 ((S 82 3) + 1))) 3 (fgP (S 83) (S 82 1) (S 82 3 + 1) 2 0 15)))) 85 1 = S 85 1 := rfl
        have ex_r : runsF (mw (us (us S 82 ((uq (S 82) 3 ((S 82 3) + 1)))) 82 ((uq ((uq (S 82) 3 ((S 82 3) + 1))) 3 (fgP (S 83) (S 82 1) (S 82 3 + 1) 2 0 15)))) 85) = runsF (mw S 85) := rfl
        refine g_callS (q := 147) (As := [.ref (yA Y 85), .int (iI (fgV (S 83) (S 82 1) (S 82 3 + 1) 2 0 15))]) (st := [.ref (yA Y 82)]) B dX8_readCommand_144 rfl (c_X8_breakOn (l := xL X) (S := (us (us S 82 ((uq (S 82) 3 ((S 82 3) + 1)))) 82 ((uq ((uq (S 82) 3 ((S 82 3) + 1))) 3 (fgP (S 83) (S 82 1) (S 82 3 + 1) 2 0 15))))) (Or.inr rfl) hwx (fgV (S 83) (S 82 1) (S 82 3 + 1) 2 0 15) (by omega) (by omega)) eX8_breakOn w1044 (by decide) rfl rfl (Nat.le_of_ble_eq_true rfl) (g_kV (fun Sy hSy => ?_))
        obtain ⟨hvSy, hfSy⟩ := hSy
        refine g_if_lt (t := 154) (q := 150) B dX8_readCommand_147 (by decide) rfl ⟨by omega, by omega⟩ (fun cq147 => ?_) (fun cq147 => ?_)
        · exact absurd cq147 (by omega)
        · refine g_iconst (q := 151) B dX8_readCommand_150 rfl ?_
          refine g_goto (q := 155) B dX8_readCommand_151 (by decide) ?_
          refine g_callV (n := 82) (ty := tyX8) (q := 158) (As := [.int (iI 1)]) (st := []) B dX8_readCommand_155 rfl (c_X8_done (l := xL X) (S := Sy) 1 (by omega)) eX8_done w1037 (by decide) rfl rfl cls6 rfl rfl (Nat.le_of_ble_eq_true rfl) (g_kE ?_)
          refine g_if_eq (t := 165) (q := 161) B dX8_readCommand_158 (by decide) rfl ⟨by omega, by omega⟩ (fun cq158 => ?_) (fun cq158 => ?_)
          · exact absurd cq158 (by omega)
          · refine g_iconst (q := 162) B dX8_readCommand_161 rfl ?_
            refine g_goto (q := 166) B dX8_readCommand_162 (by decide) ?_
            refine g_zret B E dX8_readCommand_166 rfl (by decide) ?_
            have eO : kO (S 83 (S 82 3)) (S 83) (S 82 1) (S 82 3 + 1) = 1 := by rw [cq21]; show yes (fgV (S 83) (S 82 1) (S 82 3 + 1) 2 0 15) = 1; rw [yes, if_neg (by omega)]
            have eB : kB (S 83 (S 82 3)) (S 83) (S 82 1) (S 82 3 + 1) (mw S 85) = 0 := by rw [cq21]; show (if fgV (S 83) (S 82 1) (S 82 3 + 1) 2 0 15 < S 85 0 then 0 else 1) = (0 : Int); exact if_pos (by omega)
            have e82 := hfSy 82 (by decide)
            refine ⟨congrArg (fun z => some (Value.int (iI z))) (show (1 : Int) = _ from eO.symm), (congrFun e82 3).trans ((show _ = kP (S 83 (S 82 3)) (S 83) (S 82 1) (S 82 3 + 1) by rw [cq21]; rfl)), fun c h3 h4 => by simp only [us_eq, e82, uq_ne _ _ h3, uq_ne _ _ h4], fun m h5 h2 => by simp only [us_ne _ _ h2, hfSy m h5], fun h1 => ?_⟩
            refine ⟨by rw [cq21]; show _ = brkG (mw S 85) (fgV (S 83) (S 82 1) (S 82 3 + 1) 2 0 15); rw [mw_ne (by decide), hvSy]; rw [brkG, if_pos (by rw [mw_0]; omega)]; rfl, ?_⟩
            have e4 := congrFun e82 4
            rw [eB]
            show Sy 82 4 + (if (1 : Int) = 0 then 1 else 0) = S 82 4 + 0
            rw [if_neg (by decide)]
            exact congrArg (· + 0) e4
  · refine g_tsIn (q := 167) B 99 dX8_readCommand_21 cq21 ⟨by decide, by decide, by decide, by decide⟩ rfl (by decide) ?_
    refine g_aload_n (q := 168) B dX8_readCommand_167 rfl 1 rfl ?_
    refine g_iconst (q := 169) B dX8_readCommand_168 rfl ?_
    refine g_iconst (q := 170) B dX8_readCommand_169 rfl ?_
    refine g_iconst (q := 171) B dX8_readCommand_170 rfl ?_
    refine g_bipush (q := 173) B dX8_readCommand_171 rfl (by decide) ?_
    refine g_callV (n := 82) (ty := tyX8) (q := 176) (As := [.int (iI 0), .int (iI 2), .int (iI 1), .int (iI 15)]) (st := []) B dX8_readCommand_173 rfl (c_fig (l := xL X) (S := (us S 82 ((uq (S 82) 3 ((S 82 3) + 1))))) (S 82 3 + 1) 2 1 15 rfl (by omega) (by omega) (by omega) hz (by omega) ht) eX8_figures w1029 (by decide) (us_eq _ _ _) rfl cls6 rfl rfl (Nat.le_of_ble_eq_true rfl) (g_kE ?_)
    have hfv2115 := fgV_in (S 83) (S 82 1) (S 82 3 + 1) 2 (lo := 1) (hi := 15) (by decide)
    have hfp2115 : (S 82 3 + 1) ≤ S 82 1 → (S 82 3 + 1) ≤ fgP (S 83) (S 82 1) (S 82 3 + 1) 2 1 15 ∧ fgP (S 83) (S 82 1) (S 82 3 + 1) 2 1 15 ≤ S 82 1 := fun h => fgP_in 2 1 15 h
    refine g_istore_n (q := 177) B dX8_readCommand_176 rfl (by decide) (L' := [(3, .int (iI (fgV (S 83) (S 82 1) (S 82 3 + 1) 2 1 15))), (2, .int (iI (S 83 (S 82 3)))), (0, .ref (yA Y 82)), (1, .ref (yA Y 85))]) rfl ?_
    refine g_iload_n (q := 178) B dX8_readCommand_177 rfl 0 rfl ?_
    refine g_iconst (q := 179) B dX8_readCommand_178 rfl ?_
    refine g_icmp_eq (t := 225) (q := 182) B dX8_readCommand_179 (by decide) rfl ⟨by omega, by omega⟩ ⟨by omega, by omega⟩ (fun cq179 => ?_) (fun cq179 => ?_)
    · refine g_iconst (q := 226) B dX8_readCommand_225 rfl ?_
      refine g_zret B E dX8_readCommand_226 rfl (by decide) ?_
      have eO : kO (S 83 (S 82 3)) (S 83) (S 82 1) (S 82 3 + 1) = 0 := by rw [cq21]; show yes (fgV (S 83) (S 82 1) (S 82 3 + 1) 2 1 15) = 0; rw [yes, if_pos (by omega)]
      refine ⟨congrArg (fun z => some (Value.int (iI z))) (show (0 : Int) = _ from eO.symm), (show _ = kP (S 83 (S 82 3)) (S 83) (S 82 1) (S 82 3 + 1) by rw [cq21]; rfl), fun c h3 h4 => by simp only [us_eq, us_ne _ _ (show (82 : Nat) ≠ 85 by decide), uq_ne _ _ h3, uq_ne _ _ h4], fun m h5 h2 => by simp only [us_ne _ _ h2, us_ne _ _ h5], fun h1 => ?_⟩
      rw [eO] at h1; exact absurd h1 (by decide)
    · refine g_aload_n (q := 183) B dX8_readCommand_182 rfl 2 rfl ?_
      refine g_aload_n (q := 184) B dX8_readCommand_183 rfl 3 rfl ?_
      refine g_iload_n (q := 185) B dX8_readCommand_184 rfl 0 rfl ?_
      have hwx : wf (mw (us (us S 82 ((uq (S 82) 3 ((S 82 3) + 1)))) 82 ((uq ((uq (S 82) 3 ((S 82 3) + 1))) 3 (fgP (S 83) (S 82 1) (S 82 3 + 1) 2 1 15)))) 85) := hw
      have ex_0 : (us (us S 82 ((uq (S 82) 3 ((S 82 3) + 1)))) 82 ((uq ((uq (S 82) 3 ((S 82 3) + 1))) 3 (fgP (S 83) (S 82 1) (S 82 3 + 1) 2 1 15)))) 85 0 = S 85 0 := rfl
      have ex_1 : (us (us S 82 ((uq (S 82) 3 ((S 82 3) + 1)))) 82 ((uq ((uq (S 82) 3 ((S 82 3) + 1))) 3 (fgP (S 83) (S 82 1) (S 82 3 + 1) 2 1 15)))) 85 1 = S 85 1 := rfl
      have ex_r : runsF (mw (us (us S 82 ((uq (S 82) 3 ((S 82 3) + 1)))) 82 ((uq ((uq (S 82) 3 ((S 82 3) + 1))) 3 (fgP (S 83) (S 82 1) (S 82 3 + 1) 2 1 15)))) 85) = runsF (mw S 85) := rfl
      refine g_callS (q := 188) (As := [.ref (yA Y 85), .int (iI (fgV (S 83) (S 82 1) (S 82 3 + 1) 2 1 15))]) (st := [.ref (yA Y 82)]) B dX8_readCommand_185 rfl (c_X8_isCutPlace (l := xL X) (S := (us (us S 82 ((uq (S 82) 3 ((S 82 3) + 1)))) 82 ((uq ((uq (S 82) 3 ((S 82 3) + 1))) 3 (fgP (S 83) (S 82 1) (S 82 3 + 1) 2 1 15))))) (Or.inr rfl) (wf.b hwx) (fgV (S 83) (S 82 1) (S 82 3 + 1) 2 1 15) ⟨by omega, by omega⟩) eX8_isCutPlace w1047 (by decide) rfl rfl (Nat.le_of_ble_eq_true rfl) (g_kE ?_)
      refine g_ifb_eq (t := 214) (q := 191) B dX8_readCommand_188 (by decide) rfl (fun cq188 => ?_) (fun cq188 => ?_)
      · refine g_iconst (q := 215) B dX8_readCommand_214 rfl ?_
        refine g_callV (n := 82) (ty := tyX8) (q := 218) (As := [.int (iI 0)]) (st := []) B dX8_readCommand_215 rfl (c_X8_done (l := xL X) (S := (us (us S 82 ((uq (S 82) 3 ((S 82 3) + 1)))) 82 ((uq ((uq (S 82) 3 ((S 82 3) + 1))) 3 (fgP (S 83) (S 82 1) (S 82 3 + 1) 2 1 15))))) 0 (by omega)) eX8_done w1037 (by decide) (us_eq _ _ _) rfl cls6 rfl rfl (Nat.le_of_ble_eq_true rfl) (g_kE ?_)
        refine g_if_eq (t := 225) (q := 221) B dX8_readCommand_218 (by decide) rfl ⟨by omega, by omega⟩ (fun cq218 => ?_) (fun cq218 => ?_)
        · exact absurd cq218 (by omega)
        · refine g_iconst (q := 222) B dX8_readCommand_221 rfl ?_
          refine g_goto (q := 226) B dX8_readCommand_222 (by decide) ?_
          refine g_zret B E dX8_readCommand_226 rfl (by decide) ?_
          have eO : kO (S 83 (S 82 3)) (S 83) (S 82 1) (S 82 3 + 1) = 1 := by rw [cq21]; show yes (fgV (S 83) (S 82 1) (S 82 3 + 1) 2 1 15) = 1; rw [yes, if_neg (by omega)]
          have eB : kB (S 83 (S 82 3)) (S 83) (S 82 1) (S 82 3 + 1) (mw S 85) = 1 := by rw [cq21]; show (if fgV (S 83) (S 82 1) (S 82 3 + 1) 2 1 15 < S 85 0 then 0 else 1) = (1 : Int); exact if_neg (by omega)
          refine ⟨congrArg (fun z => some (Value.int (iI z))) (show (1 : Int) = _ from eO.symm), (show _ = kP (S 83 (S 82 3)) (S 83) (S 82 1) (S 82 3 + 1) by rw [cq21]; rfl), fun c h3 h4 => by simp only [us_eq, us_ne _ _ (show (82 : Nat) ≠ 85 by decide), uq_ne _ _ h3, uq_ne _ _ h4], fun m h5 h2 => by simp only [us_ne _ _ h2, us_ne _ _ h5], fun h1 => ?_⟩
          refine ⟨by rw [cq21]; show _ = cutG (mw S 85) (fgV (S 83) (S 82 1) (S 82 3 + 1) 2 1 15) 1; simp only [mw_ne (show (85 : Nat) ≠ 82 by decide)]; rw [cutG, if_neg (by rw [mw_0]; omega)], ?_⟩
          rw [eB]
          rfl
      · refine g_aload_n (q := 192) B dX8_readCommand_191 rfl 3 rfl ?_
        refine g_iload_n (q := 193) B dX8_readCommand_192 rfl 0 rfl ?_
        refine g_iload_n (q := 194) B dX8_readCommand_193 rfl 1 rfl ?_
        refine g_bipush (q := 196) B dX8_readCommand_194 rfl (by decide) ?_
        refine g_icmp_ne (t := 203) (q := 199) B dX8_readCommand_196 (by decide) rfl ⟨by omega, by omega⟩ ⟨by omega, by omega⟩ (fun cq196 => ?_) (fun cq196 => ?_)
        · exact absurd cq196 (by omega)
        · refine g_iconst (q := 200) B dX8_readCommand_199 rfl ?_
          refine g_goto (q := 204) B dX8_readCommand_200 (by decide) ?_
          have hwx : wf (mw (us (us S 82 ((uq (S 82) 3 ((S 82 3) + 1)))) 82 ((uq ((uq (S 82) 3 ((S 82 3) + 1))) 3 (fgP (S 83) (S 82 1) (S 82 3 + 1) 2 1 15)))) 85) := hw
          have ex_0 : (us (us S 82 ((uq (S 82) 3 ((S 82 3) + 1)))) 82 ((uq ((uq (S 82) 3 ((S 82 3) + 1))) 3 (fgP (S 83) (S 82 1) (S 82 3 + 1) 2 1 15)))) 85 0 = S 85 0 := rfl
          have ex_1 : (us (us S 82 ((uq (S 82) 3 ((S 82 3) + 1)))) 82 ((uq ((uq (S 82) 3 ((S 82 3) + 1))) 3 (fgP (S 83) (S 82 1) (S 82 3 + 1) 2 1 15)))) 85 1 = S 85 1 := rfl
          have ex_r : runsF (mw (us (us S 82 ((uq (S 82) 3 ((S 82 3) + 1)))) 82 ((uq ((uq (S 82) 3 ((S 82 3) + 1))) 3 (fgP (S 83) (S 82 1) (S 82 3 + 1) 2 1 15)))) 85) = runsF (mw S 85) := rfl
          refine g_callS (q := 207) (As := [.ref (yA Y 85), .int (iI (fgV (S 83) (S 82 1) (S 82 3 + 1) 2 1 15)), .int (iI 1)]) (st := [.ref (yA Y 82)]) B dX8_readCommand_204 rfl (c_X8_cutOn (l := xL X) (S := (us (us S 82 ((uq (S 82) 3 ((S 82 3) + 1)))) 82 ((uq ((uq (S 82) 3 ((S 82 3) + 1))) 3 (fgP (S 83) (S 82 1) (S 82 3 + 1) 2 1 15))))) (Or.inr rfl) hwx (fgV (S 83) (S 82 1) (S 82 3 + 1) 2 1 15) 1 (by omega) (by omega) (by omega)) eX8_cutOn w1050 (by decide) rfl rfl (Nat.le_of_ble_eq_true rfl) (g_kV (fun Sy hSy => ?_))
          obtain ⟨hvSy, hfSy⟩ := hSy
          have := runsF_in (cutF (mw (us (us S 82 ((uq (S 82) 3 ((S 82 3) + 1)))) 82 ((uq ((uq (S 82) 3 ((S 82 3) + 1))) 3 (fgP (S 83) (S 82 1) (S 82 3 + 1) 2 1 15)))) 85) (fgV (S 83) (S 82 1) (S 82 3 + 1) 2 1 15) ((1 : Int) = 1))
          have := cutF_r (g := mw (us (us S 82 ((uq (S 82) 3 ((S 82 3) + 1)))) 82 ((uq ((uq (S 82) 3 ((S 82 3) + 1))) 3 (fgP (S 83) (S 82 1) (S 82 3 + 1) 2 1 15)))) 85) (fgV (S 83) (S 82 1) (S 82 3 + 1) 2 1 15) ((1 : Int) = 1) (by rw [mw_0]; omega)
          refine g_if_le (t := 214) (q := 210) B dX8_readCommand_207 (by decide) rfl ⟨by omega, by omega⟩ (fun cq207 => ?_) (fun cq207 => ?_)
          · exact absurd cq207 (by omega)
          · refine g_iconst (q := 211) B dX8_readCommand_210 rfl ?_
            refine g_goto (q := 215) B dX8_readCommand_211 (by decide) ?_
            refine g_callV (n := 82) (ty := tyX8) (q := 218) (As := [.int (iI 1)]) (st := []) B dX8_readCommand_215 rfl (c_X8_done (l := xL X) (S := Sy) 1 (by omega)) eX8_done w1037 (by decide) rfl rfl cls6 rfl rfl (Nat.le_of_ble_eq_true rfl) (g_kE ?_)
            refine g_if_eq (t := 225) (q := 221) B dX8_readCommand_218 (by decide) rfl ⟨by omega, by omega⟩ (fun cq218 => ?_) (fun cq218 => ?_)
            · exact absurd cq218 (by omega)
            · refine g_iconst (q := 222) B dX8_readCommand_221 rfl ?_
              refine g_goto (q := 226) B dX8_readCommand_222 (by decide) ?_
              refine g_zret B E dX8_readCommand_226 rfl (by decide) ?_
              have eO : kO (S 83 (S 82 3)) (S 83) (S 82 1) (S 82 3 + 1) = 1 := by rw [cq21]; show yes (fgV (S 83) (S 82 1) (S 82 3 + 1) 2 1 15) = 1; rw [yes, if_neg (by omega)]
              have eB : kB (S 83 (S 82 3)) (S 83) (S 82 1) (S 82 3 + 1) (mw S 85) = 0 := by rw [cq21]; show (if fgV (S 83) (S 82 1) (S 82 3 + 1) 2 1 15 < S 85 0 then 0 else 1) = (0 : Int); exact if_pos (by omega)
              have e82 := hfSy 82 (by decide)
              refine ⟨congrArg (fun z => some (Value.int (iI z))) (show (1 : Int) = _ from eO.symm), (congrFun e82 3).trans ((show _ = kP (S 83 (S 82 3)) (S 83) (S 82 1) (S 82 3 + 1) by rw [cq21]; rfl)), fun c h3 h4 => by simp only [us_eq, e82, uq_ne _ _ h3, uq_ne _ _ h4], fun m h5 h2 => by simp only [us_ne _ _ h2, hfSy m h5], fun h1 => ?_⟩
              refine ⟨by rw [cq21]; show _ = cutG (mw S 85) (fgV (S 83) (S 82 1) (S 82 3 + 1) 2 1 15) 1; rw [mw_ne (by decide), hvSy]; rw [cutG, if_pos (by rw [mw_0]; omega)]; rfl, ?_⟩
              have e4 := congrFun e82 4
              rw [eB]
              show Sy 82 4 + (if (1 : Int) = 0 then 1 else 0) = S 82 4 + 0
              rw [if_neg (by decide)]
              exact congrArg (· + 0) e4
  · refine g_tsIn (q := 356) B 100 dX8_readCommand_21 cq21 ⟨by decide, by decide, by decide, by decide⟩ rfl (by decide) ?_
    refine g_aload_n (q := 357) B dX8_readCommand_356 rfl 1 rfl ?_
    refine g_iconst (q := 358) B dX8_readCommand_357 rfl ?_
    refine g_iconst (q := 359) B dX8_readCommand_358 rfl ?_
    refine g_iconst (q := 360) B dX8_readCommand_359 rfl ?_
    refine g_iconst (q := 361) B dX8_readCommand_360 rfl ?_
    refine g_callV (n := 82) (ty := tyX8) (q := 364) (As := [.int (iI 0), .int (iI 1), .int (iI 0), .int (iI 1)]) (st := []) B dX8_readCommand_361 rfl (c_fig (l := xL X) (S := (us S 82 ((uq (S 82) 3 ((S 82 3) + 1))))) (S 82 3 + 1) 1 0 1 rfl (by omega) (by omega) (by omega) hz (by omega) ht) eX8_figures w1029 (by decide) (us_eq _ _ _) rfl cls6 rfl rfl (Nat.le_of_ble_eq_true rfl) (g_kE ?_)
    have hfv101 := fgV_in (S 83) (S 82 1) (S 82 3 + 1) 1 (lo := 0) (hi := 1) (by decide)
    have hfp101 : (S 82 3 + 1) ≤ S 82 1 → (S 82 3 + 1) ≤ fgP (S 83) (S 82 1) (S 82 3 + 1) 1 0 1 ∧ fgP (S 83) (S 82 1) (S 82 3 + 1) 1 0 1 ≤ S 82 1 := fun h => fgP_in 1 0 1 h
    refine g_istore_n (q := 365) B dX8_readCommand_364 rfl (by decide) (L' := [(3, .int (iI (fgV (S 83) (S 82 1) (S 82 3 + 1) 1 0 1))), (2, .int (iI (S 83 (S 82 3)))), (0, .ref (yA Y 82)), (1, .ref (yA Y 85))]) rfl ?_
    refine g_iload_n (q := 366) B dX8_readCommand_365 rfl 0 rfl ?_
    refine g_iconst (q := 367) B dX8_readCommand_366 rfl ?_
    refine g_icmp_eq (t := 394) (q := 370) B dX8_readCommand_367 (by decide) rfl ⟨by omega, by omega⟩ ⟨by omega, by omega⟩ (fun cq367 => ?_) (fun cq367 => ?_)
    · refine g_iconst (q := 395) B dX8_readCommand_394 rfl ?_
      refine g_zret B E dX8_readCommand_395 rfl (by decide) ?_
      have eO : kO (S 83 (S 82 3)) (S 83) (S 82 1) (S 82 3 + 1) = 0 := by rw [cq21]; show yes (fgV (S 83) (S 82 1) (S 82 3 + 1) 1 0 1) = 0; rw [yes, if_pos (by omega)]
      refine ⟨congrArg (fun z => some (Value.int (iI z))) (show (0 : Int) = _ from eO.symm), (show _ = kP (S 83 (S 82 3)) (S 83) (S 82 1) (S 82 3 + 1) by rw [cq21]; rfl), fun c h3 h4 => by simp only [us_eq, us_ne _ _ (show (82 : Nat) ≠ 85 by decide), uq_ne _ _ h3, uq_ne _ _ h4], fun m h5 h2 => by simp only [us_ne _ _ h2, us_ne _ _ h5], fun h1 => ?_⟩
      rw [eO] at h1; exact absurd h1 (by decide)
    · refine g_aload_n (q := 371) B dX8_readCommand_370 rfl 2 rfl ?_
      refine g_aload_n (q := 372) B dX8_readCommand_371 rfl 3 rfl ?_
      refine g_iload_n (q := 373) B dX8_readCommand_372 rfl 0 rfl ?_
      have hwx : wf (mw (us (us S 82 ((uq (S 82) 3 ((S 82 3) + 1)))) 82 ((uq ((uq (S 82) 3 ((S 82 3) + 1))) 3 (fgP (S 83) (S 82 1) (S 82 3 + 1) 1 0 1)))) 85) := hw
      have ex_0 : (us (us S 82 ((uq (S 82) 3 ((S 82 3) + 1)))) 82 ((uq ((uq (S 82) 3 ((S 82 3) + 1))) 3 (fgP (S 83) (S 82 1) (S 82 3 + 1) 1 0 1)))) 85 0 = S 85 0 := rfl
      have ex_1 : (us (us S 82 ((uq (S 82) 3 ((S 82 3) + 1)))) 82 ((uq ((uq (S 82) 3 ((S 82 3) + 1))) 3 (fgP (S 83) (S 82 1) (S 82 3 + 1) 1 0 1)))) 85 1 = S 85 1 := rfl
      have ex_r : runsF (mw (us (us S 82 ((uq (S 82) 3 ((S 82 3) + 1)))) 82 ((uq ((uq (S 82) 3 ((S 82 3) + 1))) 3 (fgP (S 83) (S 82 1) (S 82 3 + 1) 1 0 1)))) 85) = runsF (mw S 85) := rfl
      refine g_callS (q := 376) (As := [.ref (yA Y 85), .int (iI (fgV (S 83) (S 82 1) (S 82 3 + 1) 1 0 1))]) (st := [.ref (yA Y 82)]) B dX8_readCommand_373 rfl (c_X8_dealOn (l := xL X) (S := (us (us S 82 ((uq (S 82) 3 ((S 82 3) + 1)))) 82 ((uq ((uq (S 82) 3 ((S 82 3) + 1))) 3 (fgP (S 83) (S 82 1) (S 82 3 + 1) 1 0 1))))) (Or.inr rfl) (wf.b hwx) (fgV (S 83) (S 82 1) (S 82 3 + 1) 1 0 1) ⟨by omega, by omega⟩ (wf_deal hwx (fgV (S 83) (S 82 1) (S 82 3 + 1) 1 0 1))) eX8_dealOn w1092 (by decide) rfl rfl (Nat.le_of_ble_eq_true rfl) (g_kV (fun Sy hSy => ?_))
      obtain ⟨hvSy, hfSy⟩ := hSy
      have := gapF_in (wf_deal hwx (fgV (S 83) (S 82 1) (S 82 3 + 1) 1 0 1))
      refine g_if_lt (t := 383) (q := 379) B dX8_readCommand_376 (by decide) rfl ⟨by omega, by omega⟩ (fun cq376 => ?_) (fun cq376 => ?_)
      · exact absurd cq376 (by omega)
      · refine g_iconst (q := 380) B dX8_readCommand_379 rfl ?_
        refine g_goto (q := 384) B dX8_readCommand_380 (by decide) ?_
        refine g_callV (n := 82) (ty := tyX8) (q := 387) (As := [.int (iI 1)]) (st := []) B dX8_readCommand_384 rfl (c_X8_done (l := xL X) (S := Sy) 1 (by omega)) eX8_done w1037 (by decide) rfl rfl cls6 rfl rfl (Nat.le_of_ble_eq_true rfl) (g_kE ?_)
        refine g_if_eq (t := 394) (q := 390) B dX8_readCommand_387 (by decide) rfl ⟨by omega, by omega⟩ (fun cq387 => ?_) (fun cq387 => ?_)
        · exact absurd cq387 (by omega)
        · refine g_iconst (q := 391) B dX8_readCommand_390 rfl ?_
          refine g_goto (q := 395) B dX8_readCommand_391 (by decide) ?_
          refine g_zret B E dX8_readCommand_395 rfl (by decide) ?_
          have eO : kO (S 83 (S 82 3)) (S 83) (S 82 1) (S 82 3 + 1) = 1 := by rw [cq21]; show yes (fgV (S 83) (S 82 1) (S 82 3 + 1) 1 0 1) = 1; rw [yes, if_neg (by omega)]
          have eB : kB (S 83 (S 82 3)) (S 83) (S 82 1) (S 82 3 + 1) (mw S 85) = 0 := by rw [cq21]; show (0) = (0 : Int); exact rfl
          have e82 := hfSy 82 (by decide)
          refine ⟨congrArg (fun z => some (Value.int (iI z))) (show (1 : Int) = _ from eO.symm), (congrFun e82 3).trans ((show _ = kP (S 83 (S 82 3)) (S 83) (S 82 1) (S 82 3 + 1) by rw [cq21]; rfl)), fun c h3 h4 => by simp only [us_eq, e82, uq_ne _ _ h3, uq_ne _ _ h4], fun m h5 h2 => by simp only [us_ne _ _ h2, hfSy m h5], fun h1 => ?_⟩
          refine ⟨by rw [cq21]; show _ = dealG (mw S 85) (fgV (S 83) (S 82 1) (S 82 3 + 1) 1 0 1); rw [mw_ne (by decide), hvSy]; rw [dealG, if_pos (by omega)]; rfl, ?_⟩
          have e4 := congrFun e82 4
          rw [eB]
          show Sy 82 4 + (if (1 : Int) = 0 then 1 else 0) = S 82 4 + 0
          rw [if_neg (by decide)]
          exact congrArg (· + 0) e4
  · refine g_tsIn (q := 227) B 103 dX8_readCommand_21 cq21 ⟨by decide, by decide, by decide, by decide⟩ rfl (by decide) ?_
    refine g_aload_n (q := 228) B dX8_readCommand_227 rfl 1 rfl ?_
    refine g_iconst (q := 229) B dX8_readCommand_228 rfl ?_
    refine g_iconst (q := 230) B dX8_readCommand_229 rfl ?_
    refine g_iconst (q := 231) B dX8_readCommand_230 rfl ?_
    refine g_bipush (q := 233) B dX8_readCommand_231 rfl (by decide) ?_
    refine g_callV (n := 82) (ty := tyX8) (q := 236) (As := [.int (iI 0), .int (iI 2), .int (iI 0), .int (iI 15)]) (st := []) B dX8_readCommand_233 rfl (c_fig (l := xL X) (S := (us S 82 ((uq (S 82) 3 ((S 82 3) + 1))))) (S 82 3 + 1) 2 0 15 rfl (by omega) (by omega) (by omega) hz (by omega) ht) eX8_figures w1029 (by decide) (us_eq _ _ _) rfl cls6 rfl rfl (Nat.le_of_ble_eq_true rfl) (g_kE ?_)
    have hfv2015 := fgV_in (S 83) (S 82 1) (S 82 3 + 1) 2 (lo := 0) (hi := 15) (by decide)
    have hfp2015 : (S 82 3 + 1) ≤ S 82 1 → (S 82 3 + 1) ≤ fgP (S 83) (S 82 1) (S 82 3 + 1) 2 0 15 ∧ fgP (S 83) (S 82 1) (S 82 3 + 1) 2 0 15 ≤ S 82 1 := fun h => fgP_in 2 0 15 h
    refine g_istore_n (q := 237) B dX8_readCommand_236 rfl (by decide) (L' := [(3, .int (iI (fgV (S 83) (S 82 1) (S 82 3 + 1) 2 0 15))), (2, .int (iI (S 83 (S 82 3)))), (0, .ref (yA Y 82)), (1, .ref (yA Y 85))]) rfl ?_
    refine g_aload_n (q := 238) B dX8_readCommand_237 rfl 2 rfl ?_
    refine g_iload_n (q := 239) B dX8_readCommand_238 rfl 0 rfl ?_
    refine g_iconst (q := 240) B dX8_readCommand_239 rfl ?_
    refine g_iconst (q := 241) B dX8_readCommand_240 rfl ?_
    refine g_iconst (q := 242) B dX8_readCommand_241 rfl ?_
    refine g_callV (n := 82) (ty := tyX8) (q := 245) (As := [.int (iI (fgV (S 83) (S 82 1) (S 82 3 + 1) 2 0 15)), .int (iI 1), .int (iI 0), .int (iI 2)]) (st := []) B dX8_readCommand_242 rfl (c_fig2 (l := xL X) (S := (us (us S 82 ((uq (S 82) 3 ((S 82 3) + 1)))) 82 ((uq ((uq (S 82) 3 ((S 82 3) + 1))) 3 (fgP (S 83) (S 82 1) (S 82 3 + 1) 2 0 15))))) (fgV (S 83) (S 82 1) (S 82 3 + 1) 2 0 15) (fgP (S 83) (S 82 1) (S 82 3 + 1) 2 0 15) 1 0 2 rfl (by omega) (by omega) (by omega) (by omega) hz (by omega) ht) eX8_figures w1029 (by decide) (us_eq _ _ _) rfl cls6 rfl rfl (Nat.le_of_ble_eq_true rfl) (g_kE ?_)
    have hfv102 := fgV_in (S 83) (S 82 1) (fgP (S 83) (S 82 1) (S 82 3 + 1) 2 0 15) 1 (lo := 0) (hi := 2) (by decide)
    have hfp102 : (fgP (S 83) (S 82 1) (S 82 3 + 1) 2 0 15) ≤ S 82 1 → (fgP (S 83) (S 82 1) (S 82 3 + 1) 2 0 15) ≤ fgP (S 83) (S 82 1) (fgP (S 83) (S 82 1) (S 82 3 + 1) 2 0 15) 1 0 2 ∧ fgP (S 83) (S 82 1) (fgP (S 83) (S 82 1) (S 82 3 + 1) 2 0 15) 1 0 2 ≤ S 82 1 := fun h => fgP_in 1 0 2 h
    refine g_istore (q := 247) B dX8_readCommand_245 rfl (by decide) (L' := [(4, .int (iI (if fgV (S 83) (S 82 1) (S 82 3 + 1) 2 0 15 = -1 then -1 else fgV (S 83) (S 82 1) (fgP (S 83) (S 82 1) (S 82 3 + 1) 2 0 15) 1 0 2))), (3, .int (iI (fgV (S 83) (S 82 1) (S 82 3 + 1) 2 0 15))), (2, .int (iI (S 83 (S 82 3)))), (0, .ref (yA Y 82)), (1, .ref (yA Y 85))]) rfl ?_
    refine g_iload (q := 249) B dX8_readCommand_247 rfl 0 rfl ?_
    refine g_iconst (q := 250) B dX8_readCommand_249 rfl ?_
    refine g_icmp_eq (t := 297) (q := 253) B dX8_readCommand_250 (by decide) rfl ⟨by omega, by omega⟩ ⟨by omega, by omega⟩ (fun cq250 => ?_) (fun cq250 => ?_)
    · refine g_iconst (q := 298) B dX8_readCommand_297 rfl ?_
      refine g_zret B E dX8_readCommand_298 rfl (by decide) ?_
      have eO : kO (S 83 (S 82 3)) (S 83) (S 82 1) (S 82 3 + 1) = 0 := by
        rw [cq21]
        show (if fgV (S 83) (S 82 1) (S 82 3 + 1) 2 0 15 = -1 then 0 else yes (fgV (S 83) (S 82 1) (fgP (S 83) (S 82 1) (S 82 3 + 1) 2 0 15) 1 0 2)) = 0
        unfold yes
        (repeat' split) <;> omega
      have eP : kP (S 83 (S 82 3)) (S 83) (S 82 1) (S 82 3 + 1) = if fgV (S 83) (S 82 1) (S 82 3 + 1) 2 0 15 = -1 then fgP (S 83) (S 82 1) (S 82 3 + 1) 2 0 15 else fgP (S 83) (S 82 1) (fgP (S 83) (S 82 1) (S 82 3 + 1) 2 0 15) 1 0 2 := by rw [cq21]; rfl
      refine ⟨congrArg (fun z => some (Value.int (iI z))) (show (0 : Int) = _ from eO.symm), eP.symm, fun c h3 h4 => by simp only [us_eq, us_ne _ _ (show (82 : Nat) ≠ 85 by decide), uq_ne _ _ h3, uq_ne _ _ h4], fun m h5 h2 => by simp only [us_ne _ _ h2, us_ne _ _ h5], fun h1 => ?_⟩
      rw [eO] at h1; exact absurd h1 (by decide)
    · refine g_aload_n (q := 254) B dX8_readCommand_253 rfl 3 rfl ?_
      refine g_aload_n (q := 255) B dX8_readCommand_254 rfl 4 rfl ?_
      refine g_iload_n (q := 256) B dX8_readCommand_255 rfl 1 rfl ?_
      have hwx : wf (mw (us (us (us S 82 ((uq (S 82) 3 ((S 82 3) + 1)))) 82 ((uq ((uq (S 82) 3 ((S 82 3) + 1))) 3 (fgP (S 83) (S 82 1) (S 82 3 + 1) 2 0 15)))) 82 ((uq ((uq ((uq (S 82) 3 ((S 82 3) + 1))) 3 (fgP (S 83) (S 82 1) (S 82 3 + 1) 2 0 15))) 3 (if fgV (S 83) (S 82 1) (S 82 3 + 1) 2 0 15 = -1 then fgP (S 83) (S 82 1) (S 82 3 + 1) 2 0 15 else fgP (S 83) (S 82 1) (fgP (S 83) (S 82 1) (S 82 3 + 1) 2 0 15) 1 0 2)))) 85) := hw
      have ex_0 : (us (us (us S 82 ((uq (S 82) 3 ((S 82 3) + 1)))) 82 ((uq ((uq (S 82) 3 ((S 82 3) + 1))) 3 (fgP (S 83) (S 82 1) (S 82 3 + 1) 2 0 15)))) 82 ((uq ((uq ((uq (S 82) 3 ((S 82 3) + 1))) 3 (fgP (S 83) (S 82 1) (S 82 3 + 1) 2 0 15))) 3 (if fgV (S 83) (S 82 1) (S 82 3 + 1) 2 0 15 = -1 then fgP (S 83) (S 82 1) (S 82 3 + 1) 2 0 15 else fgP (S 83) (S 82 1) (fgP (S 83) (S 82 1) (S 82 3 + 1) 2 0 15) 1 0 2)))) 85 0 = S 85 0 := rfl
      have ex_1 : (us (us (us S 82 ((uq (S 82) 3 ((S 82 3) + 1)))) 82 ((uq ((uq (S 82) 3 ((S 82 3) + 1))) 3 (fgP (S 83) (S 82 1) (S 82 3 + 1) 2 0 15)))) 82 ((uq ((uq ((uq (S 82) 3 ((S 82 3) + 1))) 3 (fgP (S 83) (S 82 1) (S 82 3 + 1) 2 0 15))) 3 (if fgV (S 83) (S 82 1) (S 82 3 + 1) 2 0 15 = -1 then fgP (S 83) (S 82 1) (S 82 3 + 1) 2 0 15 else fgP (S 83) (S 82 1) (fgP (S 83) (S 82 1) (S 82 3 + 1) 2 0 15) 1 0 2)))) 85 1 = S 85 1 := rfl
      have ex_r : runsF (mw (us (us (us S 82 ((uq (S 82) 3 ((S 82 3) + 1)))) 82 ((uq ((uq (S 82) 3 ((S 82 3) + 1))) 3 (fgP (S 83) (S 82 1) (S 82 3 + 1) 2 0 15)))) 82 ((uq ((uq ((uq (S 82) 3 ((S 82 3) + 1))) 3 (fgP (S 83) (S 82 1) (S 82 3 + 1) 2 0 15))) 3 (if fgV (S 83) (S 82 1) (S 82 3 + 1) 2 0 15 = -1 then fgP (S 83) (S 82 1) (S 82 3 + 1) 2 0 15 else fgP (S 83) (S 82 1) (fgP (S 83) (S 82 1) (S 82 3 + 1) 2 0 15) 1 0 2)))) 85) = runsF (mw S 85) := rfl
      refine g_callS (q := 259) (As := [.ref (yA Y 85), .int (iI (fgV (S 83) (S 82 1) (S 82 3 + 1) 2 0 15))]) (st := [.ref (yA Y 82)]) B dX8_readCommand_256 rfl (c_X8_isRun (l := xL X) (S := (us (us (us S 82 ((uq (S 82) 3 ((S 82 3) + 1)))) 82 ((uq ((uq (S 82) 3 ((S 82 3) + 1))) 3 (fgP (S 83) (S 82 1) (S 82 3 + 1) 2 0 15)))) 82 ((uq ((uq ((uq (S 82) 3 ((S 82 3) + 1))) 3 (fgP (S 83) (S 82 1) (S 82 3 + 1) 2 0 15))) 3 (if fgV (S 83) (S 82 1) (S 82 3 + 1) 2 0 15 = -1 then fgP (S 83) (S 82 1) (S 82 3 + 1) 2 0 15 else fgP (S 83) (S 82 1) (fgP (S 83) (S 82 1) (S 82 3 + 1) 2 0 15) 1 0 2))))) (Or.inr rfl) (wf.b hwx) (fgV (S 83) (S 82 1) (S 82 3 + 1) 2 0 15) ⟨by omega, by omega⟩) eX8_isRun w1065 (by decide) rfl rfl (Nat.le_of_ble_eq_true rfl) (g_kE ?_)
      have := runsF_in (mw (us (us (us S 82 ((uq (S 82) 3 ((S 82 3) + 1)))) 82 ((uq ((uq (S 82) 3 ((S 82 3) + 1))) 3 (fgP (S 83) (S 82 1) (S 82 3 + 1) 2 0 15)))) 82 ((uq ((uq ((uq (S 82) 3 ((S 82 3) + 1))) 3 (fgP (S 83) (S 82 1) (S 82 3 + 1) 2 0 15))) 3 (if fgV (S 83) (S 82 1) (S 82 3 + 1) 2 0 15 = -1 then fgP (S 83) (S 82 1) (S 82 3 + 1) 2 0 15 else fgP (S 83) (S 82 1) (fgP (S 83) (S 82 1) (S 82 3 + 1) 2 0 15) 1 0 2)))) 85)
      refine g_ifb_eq (t := 286) (q := 262) B dX8_readCommand_259 (by decide) rfl (fun cq259 => ?_) (fun cq259 => ?_)
      · refine g_iconst (q := 287) B dX8_readCommand_286 rfl ?_
        refine g_callV (n := 82) (ty := tyX8) (q := 290) (As := [.int (iI 0)]) (st := []) B dX8_readCommand_287 rfl (c_X8_done (l := xL X) (S := (us (us (us S 82 ((uq (S 82) 3 ((S 82 3) + 1)))) 82 ((uq ((uq (S 82) 3 ((S 82 3) + 1))) 3 (fgP (S 83) (S 82 1) (S 82 3 + 1) 2 0 15)))) 82 ((uq ((uq ((uq (S 82) 3 ((S 82 3) + 1))) 3 (fgP (S 83) (S 82 1) (S 82 3 + 1) 2 0 15))) 3 (if fgV (S 83) (S 82 1) (S 82 3 + 1) 2 0 15 = -1 then fgP (S 83) (S 82 1) (S 82 3 + 1) 2 0 15 else fgP (S 83) (S 82 1) (fgP (S 83) (S 82 1) (S 82 3 + 1) 2 0 15) 1 0 2))))) 0 (by omega)) eX8_done w1037 (by decide) (us_eq _ _ _) rfl cls6 rfl rfl (Nat.le_of_ble_eq_true rfl) (g_kE ?_)
        refine g_if_eq (t := 297) (q := 293) B dX8_readCommand_290 (by decide) rfl ⟨by omega, by omega⟩ (fun cq290 => ?_) (fun cq290 => ?_)
        · exact absurd cq290 (by omega)
        · refine g_iconst (q := 294) B dX8_readCommand_293 rfl ?_
          refine g_goto (q := 298) B dX8_readCommand_294 (by decide) ?_
          refine g_zret B E dX8_readCommand_298 rfl (by decide) ?_
          have eO : kO (S 83 (S 82 3)) (S 83) (S 82 1) (S 82 3 + 1) = 1 := by
            rw [cq21]
            show (if fgV (S 83) (S 82 1) (S 82 3 + 1) 2 0 15 = -1 then 0 else yes (fgV (S 83) (S 82 1) (fgP (S 83) (S 82 1) (S 82 3 + 1) 2 0 15) 1 0 2)) = 1
            unfold yes
            (repeat' split) <;> omega
          have eP : kP (S 83 (S 82 3)) (S 83) (S 82 1) (S 82 3 + 1) = if fgV (S 83) (S 82 1) (S 82 3 + 1) 2 0 15 = -1 then fgP (S 83) (S 82 1) (S 82 3 + 1) 2 0 15 else fgP (S 83) (S 82 1) (fgP (S 83) (S 82 1) (S 82 3 + 1) 2 0 15) 1 0 2 := by rw [cq21]; rfl
          have eB : kB (S 83 (S 82 3)) (S 83) (S 82 1) (S 82 3 + 1) (mw S 85) = 1 := by rw [cq21]; show (if fgV (S 83) (S 82 1) (S 82 3 + 1) 2 0 15 < runsF (mw S 85) then 0 else 1) = (1 : Int); exact if_neg (by omega)
          refine ⟨congrArg (fun z => some (Value.int (iI z))) (show (1 : Int) = _ from eO.symm), eP.symm, fun c h3 h4 => by simp only [us_eq, us_ne _ _ (show (82 : Nat) ≠ 85 by decide), uq_ne _ _ h3, uq_ne _ _ h4], fun m h5 h2 => by simp only [us_ne _ _ h2, us_ne _ _ h5], fun h1 => ?_⟩
          refine ⟨by rw [cq21]; show _ = giveG (mw S 85) (fgV (S 83) (S 82 1) (S 82 3 + 1) 2 0 15) (enO (fgV (S 83) (S 82 1) (fgP (S 83) (S 82 1) (S 82 3 + 1) 2 0 15) 1 0 2)); simp only [mw_ne (show (85 : Nat) ≠ 82 by decide)]; rw [giveG, if_neg (by omega)], ?_⟩
          rw [eB]
          rfl
      · refine g_aload_n (q := 263) B dX8_readCommand_262 rfl 4 rfl ?_
        refine g_iload_n (q := 264) B dX8_readCommand_263 rfl 1 rfl ?_
        refine g_iload (q := 266) B dX8_readCommand_264 rfl 0 rfl ?_
        refine g_iconst (q := 267) B dX8_readCommand_266 rfl ?_
        refine g_icmp_ne (t := 274) (q := 270) B dX8_readCommand_267 (by decide) rfl ⟨by omega, by omega⟩ ⟨by omega, by omega⟩ (fun cq267 => ?_) (fun cq267 => ?_)
        · refine g_iload (q := 276) B dX8_readCommand_274 rfl 0 rfl ?_
          have hwx : wf (mw (us (us (us S 82 ((uq (S 82) 3 ((S 82 3) + 1)))) 82 ((uq ((uq (S 82) 3 ((S 82 3) + 1))) 3 (fgP (S 83) (S 82 1) (S 82 3 + 1) 2 0 15)))) 82 ((uq ((uq ((uq (S 82) 3 ((S 82 3) + 1))) 3 (fgP (S 83) (S 82 1) (S 82 3 + 1) 2 0 15))) 3 (if fgV (S 83) (S 82 1) (S 82 3 + 1) 2 0 15 = -1 then fgP (S 83) (S 82 1) (S 82 3 + 1) 2 0 15 else fgP (S 83) (S 82 1) (fgP (S 83) (S 82 1) (S 82 3 + 1) 2 0 15) 1 0 2)))) 85) := hw
          have ex_0 : (us (us (us S 82 ((uq (S 82) 3 ((S 82 3) + 1)))) 82 ((uq ((uq (S 82) 3 ((S 82 3) + 1))) 3 (fgP (S 83) (S 82 1) (S 82 3 + 1) 2 0 15)))) 82 ((uq ((uq ((uq (S 82) 3 ((S 82 3) + 1))) 3 (fgP (S 83) (S 82 1) (S 82 3 + 1) 2 0 15))) 3 (if fgV (S 83) (S 82 1) (S 82 3 + 1) 2 0 15 = -1 then fgP (S 83) (S 82 1) (S 82 3 + 1) 2 0 15 else fgP (S 83) (S 82 1) (fgP (S 83) (S 82 1) (S 82 3 + 1) 2 0 15) 1 0 2)))) 85 0 = S 85 0 := rfl
          have ex_1 : (us (us (us S 82 ((uq (S 82) 3 ((S 82 3) + 1)))) 82 ((uq ((uq (S 82) 3 ((S 82 3) + 1))) 3 (fgP (S 83) (S 82 1) (S 82 3 + 1) 2 0 15)))) 82 ((uq ((uq ((uq (S 82) 3 ((S 82 3) + 1))) 3 (fgP (S 83) (S 82 1) (S 82 3 + 1) 2 0 15))) 3 (if fgV (S 83) (S 82 1) (S 82 3 + 1) 2 0 15 = -1 then fgP (S 83) (S 82 1) (S 82 3 + 1) 2 0 15 else fgP (S 83) (S 82 1) (fgP (S 83) (S 82 1) (S 82 3 + 1) 2 0 15) 1 0 2)))) 85 1 = S 85 1 := rfl
          have ex_r : runsF (mw (us (us (us S 82 ((uq (S 82) 3 ((S 82 3) + 1)))) 82 ((uq ((uq (S 82) 3 ((S 82 3) + 1))) 3 (fgP (S 83) (S 82 1) (S 82 3 + 1) 2 0 15)))) 82 ((uq ((uq ((uq (S 82) 3 ((S 82 3) + 1))) 3 (fgP (S 83) (S 82 1) (S 82 3 + 1) 2 0 15))) 3 (if fgV (S 83) (S 82 1) (S 82 3 + 1) 2 0 15 = -1 then fgP (S 83) (S 82 1) (S 82 3 + 1) 2 0 15 else fgP (S 83) (S 82 1) (fgP (S 83) (S 82 1) (S 82 3 + 1) 2 0 15) 1 0 2)))) 85) = runsF (mw S 85) := rfl
          refine g_callS (q := 279) (As := [.ref (yA Y 85), .int (iI (fgV (S 83) (S 82 1) (S 82 3 + 1) 2 0 15)), .int (iI (if fgV (S 83) (S 82 1) (S 82 3 + 1) 2 0 15 = -1 then -1 else fgV (S 83) (S 82 1) (fgP (S 83) (S 82 1) (S 82 3 + 1) 2 0 15) 1 0 2))]) (st := [.ref (yA Y 82)]) B dX8_readCommand_276 rfl (c_X8_giveOn (l := xL X) (S := (us (us (us S 82 ((uq (S 82) 3 ((S 82 3) + 1)))) 82 ((uq ((uq (S 82) 3 ((S 82 3) + 1))) 3 (fgP (S 83) (S 82 1) (S 82 3 + 1) 2 0 15)))) 82 ((uq ((uq ((uq (S 82) 3 ((S 82 3) + 1))) 3 (fgP (S 83) (S 82 1) (S 82 3 + 1) 2 0 15))) 3 (if fgV (S 83) (S 82 1) (S 82 3 + 1) 2 0 15 = -1 then fgP (S 83) (S 82 1) (S 82 3 + 1) 2 0 15 else fgP (S 83) (S 82 1) (fgP (S 83) (S 82 1) (S 82 3 + 1) 2 0 15) 1 0 2))))) (Or.inr rfl) hwx (fgV (S 83) (S 82 1) (S 82 3 + 1) 2 0 15) (if fgV (S 83) (S 82 1) (S 82 3 + 1) 2 0 15 = -1 then -1 else fgV (S 83) (S 82 1) (fgP (S 83) (S 82 1) (S 82 3 + 1) 2 0 15) 1 0 2) ⟨by omega, by omega⟩ ⟨by omega, by omega⟩) eX8_giveOn w1068 (by decide) rfl rfl (Nat.le_of_ble_eq_true rfl) (g_kV (fun Sy hSy => ?_))
          obtain ⟨hvSy, hfSy⟩ := hSy
          have := gapF_in (wf_give hwx (fgV (S 83) (S 82 1) (S 82 3 + 1) 2 0 15) (o := (if fgV (S 83) (S 82 1) (S 82 3 + 1) 2 0 15 = -1 then -1 else fgV (S 83) (S 82 1) (fgP (S 83) (S 82 1) (S 82 3 + 1) 2 0 15) 1 0 2)) (by omega))
          refine g_if_lt (t := 286) (q := 282) B dX8_readCommand_279 (by decide) rfl ⟨by omega, by omega⟩ (fun cq279 => ?_) (fun cq279 => ?_)
          · exact absurd cq279 (by omega)
          · refine g_iconst (q := 283) B dX8_readCommand_282 rfl ?_
            refine g_goto (q := 287) B dX8_readCommand_283 (by decide) ?_
            refine g_callV (n := 82) (ty := tyX8) (q := 290) (As := [.int (iI 1)]) (st := []) B dX8_readCommand_287 rfl (c_X8_done (l := xL X) (S := Sy) 1 (by omega)) eX8_done w1037 (by decide) rfl rfl cls6 rfl rfl (Nat.le_of_ble_eq_true rfl) (g_kE ?_)
            refine g_if_eq (t := 297) (q := 293) B dX8_readCommand_290 (by decide) rfl ⟨by omega, by omega⟩ (fun cq290 => ?_) (fun cq290 => ?_)
            · exact absurd cq290 (by omega)
            · refine g_iconst (q := 294) B dX8_readCommand_293 rfl ?_
              refine g_goto (q := 298) B dX8_readCommand_294 (by decide) ?_
              refine g_zret B E dX8_readCommand_298 rfl (by decide) ?_
              have eO : kO (S 83 (S 82 3)) (S 83) (S 82 1) (S 82 3 + 1) = 1 := by
                rw [cq21]
                show (if fgV (S 83) (S 82 1) (S 82 3 + 1) 2 0 15 = -1 then 0 else yes (fgV (S 83) (S 82 1) (fgP (S 83) (S 82 1) (S 82 3 + 1) 2 0 15) 1 0 2)) = 1
                unfold yes
                (repeat' split) <;> omega
              have eP : kP (S 83 (S 82 3)) (S 83) (S 82 1) (S 82 3 + 1) = if fgV (S 83) (S 82 1) (S 82 3 + 1) 2 0 15 = -1 then fgP (S 83) (S 82 1) (S 82 3 + 1) 2 0 15 else fgP (S 83) (S 82 1) (fgP (S 83) (S 82 1) (S 82 3 + 1) 2 0 15) 1 0 2 := by rw [cq21]; rfl
              have eB : kB (S 83 (S 82 3)) (S 83) (S 82 1) (S 82 3 + 1) (mw S 85) = 0 := by rw [cq21]; show (if fgV (S 83) (S 82 1) (S 82 3 + 1) 2 0 15 < runsF (mw S 85) then 0 else 1) = (0 : Int); exact if_pos (by omega)
              have e82 := hfSy 82 (by decide)
              refine ⟨congrArg (fun z => some (Value.int (iI z))) (show (1 : Int) = _ from eO.symm), (congrFun e82 3).trans (eP.symm), fun c h3 h4 => by simp only [us_eq, e82, uq_ne _ _ h3, uq_ne _ _ h4], fun m h5 h2 => by simp only [us_ne _ _ h2, hfSy m h5], fun h1 => ?_⟩
              refine ⟨by rw [cq21]; show _ = giveG (mw S 85) (fgV (S 83) (S 82 1) (S 82 3 + 1) 2 0 15) (enO (fgV (S 83) (S 82 1) (fgP (S 83) (S 82 1) (S 82 3 + 1) 2 0 15) 1 0 2)); rw [mw_ne (by decide), hvSy]; rw [show enO (fgV (S 83) (S 82 1) (fgP (S 83) (S 82 1) (S 82 3 + 1) 2 0 15) 1 0 2) = if fgV (S 83) (S 82 1) (S 82 3 + 1) 2 0 15 = -1 then -1 else fgV (S 83) (S 82 1) (fgP (S 83) (S 82 1) (S 82 3 + 1) 2 0 15) 1 0 2 by unfold enO; split <;> omega, giveG_of ⟨⟨by omega, by omega⟩, by omega⟩]; rfl, ?_⟩
              have e4 := congrFun e82 4
              rw [eB]
              show Sy 82 4 + (if (1 : Int) = 0 then 1 else 0) = S 82 4 + 0
              rw [if_neg (by decide)]
              exact congrArg (· + 0) e4
        · refine g_iconst (q := 271) B dX8_readCommand_270 rfl ?_
          refine g_goto (q := 276) B dX8_readCommand_271 (by decide) ?_
          have hwx : wf (mw (us (us (us S 82 ((uq (S 82) 3 ((S 82 3) + 1)))) 82 ((uq ((uq (S 82) 3 ((S 82 3) + 1))) 3 (fgP (S 83) (S 82 1) (S 82 3 + 1) 2 0 15)))) 82 ((uq ((uq ((uq (S 82) 3 ((S 82 3) + 1))) 3 (fgP (S 83) (S 82 1) (S 82 3 + 1) 2 0 15))) 3 (if fgV (S 83) (S 82 1) (S 82 3 + 1) 2 0 15 = -1 then fgP (S 83) (S 82 1) (S 82 3 + 1) 2 0 15 else fgP (S 83) (S 82 1) (fgP (S 83) (S 82 1) (S 82 3 + 1) 2 0 15) 1 0 2)))) 85) := hw
          have ex_0 : (us (us (us S 82 ((uq (S 82) 3 ((S 82 3) + 1)))) 82 ((uq ((uq (S 82) 3 ((S 82 3) + 1))) 3 (fgP (S 83) (S 82 1) (S 82 3 + 1) 2 0 15)))) 82 ((uq ((uq ((uq (S 82) 3 ((S 82 3) + 1))) 3 (fgP (S 83) (S 82 1) (S 82 3 + 1) 2 0 15))) 3 (if fgV (S 83) (S 82 1) (S 82 3 + 1) 2 0 15 = -1 then fgP (S 83) (S 82 1) (S 82 3 + 1) 2 0 15 else fgP (S 83) (S 82 1) (fgP (S 83) (S 82 1) (S 82 3 + 1) 2 0 15) 1 0 2)))) 85 0 = S 85 0 := rfl
          have ex_1 : (us (us (us S 82 ((uq (S 82) 3 ((S 82 3) + 1)))) 82 ((uq ((uq (S 82) 3 ((S 82 3) + 1))) 3 (fgP (S 83) (S 82 1) (S 82 3 + 1) 2 0 15)))) 82 ((uq ((uq ((uq (S 82) 3 ((S 82 3) + 1))) 3 (fgP (S 83) (S 82 1) (S 82 3 + 1) 2 0 15))) 3 (if fgV (S 83) (S 82 1) (S 82 3 + 1) 2 0 15 = -1 then fgP (S 83) (S 82 1) (S 82 3 + 1) 2 0 15 else fgP (S 83) (S 82 1) (fgP (S 83) (S 82 1) (S 82 3 + 1) 2 0 15) 1 0 2)))) 85 1 = S 85 1 := rfl
          have ex_r : runsF (mw (us (us (us S 82 ((uq (S 82) 3 ((S 82 3) + 1)))) 82 ((uq ((uq (S 82) 3 ((S 82 3) + 1))) 3 (fgP (S 83) (S 82 1) (S 82 3 + 1) 2 0 15)))) 82 ((uq ((uq ((uq (S 82) 3 ((S 82 3) + 1))) 3 (fgP (S 83) (S 82 1) (S 82 3 + 1) 2 0 15))) 3 (if fgV (S 83) (S 82 1) (S 82 3 + 1) 2 0 15 = -1 then fgP (S 83) (S 82 1) (S 82 3 + 1) 2 0 15 else fgP (S 83) (S 82 1) (fgP (S 83) (S 82 1) (S 82 3 + 1) 2 0 15) 1 0 2)))) 85) = runsF (mw S 85) := rfl
          refine g_callS (q := 279) (As := [.ref (yA Y 85), .int (iI (fgV (S 83) (S 82 1) (S 82 3 + 1) 2 0 15)), .int (iI (-1))]) (st := [.ref (yA Y 82)]) B dX8_readCommand_276 rfl (c_X8_giveOn (l := xL X) (S := (us (us (us S 82 ((uq (S 82) 3 ((S 82 3) + 1)))) 82 ((uq ((uq (S 82) 3 ((S 82 3) + 1))) 3 (fgP (S 83) (S 82 1) (S 82 3 + 1) 2 0 15)))) 82 ((uq ((uq ((uq (S 82) 3 ((S 82 3) + 1))) 3 (fgP (S 83) (S 82 1) (S 82 3 + 1) 2 0 15))) 3 (if fgV (S 83) (S 82 1) (S 82 3 + 1) 2 0 15 = -1 then fgP (S 83) (S 82 1) (S 82 3 + 1) 2 0 15 else fgP (S 83) (S 82 1) (fgP (S 83) (S 82 1) (S 82 3 + 1) 2 0 15) 1 0 2))))) (Or.inr rfl) hwx (fgV (S 83) (S 82 1) (S 82 3 + 1) 2 0 15) (-1) ⟨by omega, by omega⟩ ⟨by omega, by omega⟩) eX8_giveOn w1068 (by decide) rfl rfl (Nat.le_of_ble_eq_true rfl) (g_kV (fun Sy hSy => ?_))
          obtain ⟨hvSy, hfSy⟩ := hSy
          have := gapF_in (wf_give hwx (fgV (S 83) (S 82 1) (S 82 3 + 1) 2 0 15) (o := (-1)) (by omega))
          refine g_if_lt (t := 286) (q := 282) B dX8_readCommand_279 (by decide) rfl ⟨by omega, by omega⟩ (fun cq279 => ?_) (fun cq279 => ?_)
          · exact absurd cq279 (by omega)
          · refine g_iconst (q := 283) B dX8_readCommand_282 rfl ?_
            refine g_goto (q := 287) B dX8_readCommand_283 (by decide) ?_
            refine g_callV (n := 82) (ty := tyX8) (q := 290) (As := [.int (iI 1)]) (st := []) B dX8_readCommand_287 rfl (c_X8_done (l := xL X) (S := Sy) 1 (by omega)) eX8_done w1037 (by decide) rfl rfl cls6 rfl rfl (Nat.le_of_ble_eq_true rfl) (g_kE ?_)
            refine g_if_eq (t := 297) (q := 293) B dX8_readCommand_290 (by decide) rfl ⟨by omega, by omega⟩ (fun cq290 => ?_) (fun cq290 => ?_)
            · exact absurd cq290 (by omega)
            · refine g_iconst (q := 294) B dX8_readCommand_293 rfl ?_
              refine g_goto (q := 298) B dX8_readCommand_294 (by decide) ?_
              refine g_zret B E dX8_readCommand_298 rfl (by decide) ?_
              have eO : kO (S 83 (S 82 3)) (S 83) (S 82 1) (S 82 3 + 1) = 1 := by
                rw [cq21]
                show (if fgV (S 83) (S 82 1) (S 82 3 + 1) 2 0 15 = -1 then 0 else yes (fgV (S 83) (S 82 1) (fgP (S 83) (S 82 1) (S 82 3 + 1) 2 0 15) 1 0 2)) = 1
                unfold yes
                (repeat' split) <;> omega
              have eP : kP (S 83 (S 82 3)) (S 83) (S 82 1) (S 82 3 + 1) = if fgV (S 83) (S 82 1) (S 82 3 + 1) 2 0 15 = -1 then fgP (S 83) (S 82 1) (S 82 3 + 1) 2 0 15 else fgP (S 83) (S 82 1) (fgP (S 83) (S 82 1) (S 82 3 + 1) 2 0 15) 1 0 2 := by rw [cq21]; rfl
              have eB : kB (S 83 (S 82 3)) (S 83) (S 82 1) (S 82 3 + 1) (mw S 85) = 0 := by rw [cq21]; show (if fgV (S 83) (S 82 1) (S 82 3 + 1) 2 0 15 < runsF (mw S 85) then 0 else 1) = (0 : Int); exact if_pos (by omega)
              have e82 := hfSy 82 (by decide)
              refine ⟨congrArg (fun z => some (Value.int (iI z))) (show (1 : Int) = _ from eO.symm), (congrFun e82 3).trans (eP.symm), fun c h3 h4 => by simp only [us_eq, e82, uq_ne _ _ h3, uq_ne _ _ h4], fun m h5 h2 => by simp only [us_ne _ _ h2, hfSy m h5], fun h1 => ?_⟩
              refine ⟨by rw [cq21]; show _ = giveG (mw S 85) (fgV (S 83) (S 82 1) (S 82 3 + 1) 2 0 15) (enO (fgV (S 83) (S 82 1) (fgP (S 83) (S 82 1) (S 82 3 + 1) 2 0 15) 1 0 2)); rw [mw_ne (by decide), hvSy]; rw [show enO (fgV (S 83) (S 82 1) (fgP (S 83) (S 82 1) (S 82 3 + 1) 2 0 15) 1 0 2) = -1 by unfold enO; split <;> omega, giveG_of ⟨⟨by omega, by omega⟩, by omega⟩]; rfl, ?_⟩
              have e4 := congrFun e82 4
              rw [eB]
              show Sy 82 4 + (if (1 : Int) = 0 then 1 else 0) = S 82 4 + 0
              rw [if_neg (by decide)]
              exact congrArg (· + 0) e4
  · refine g_tsIn (q := 112) B 106 dX8_readCommand_21 cq21 ⟨by decide, by decide, by decide, by decide⟩ rfl (by decide) ?_
    refine g_aload_n (q := 113) B dX8_readCommand_112 rfl 1 rfl ?_
    refine g_aload_n (q := 114) B dX8_readCommand_113 rfl 2 rfl ?_
    have hwx : wf (mw (us S 82 ((uq (S 82) 3 ((S 82 3) + 1)))) 85) := hw
    have ex_0 : (us S 82 ((uq (S 82) 3 ((S 82 3) + 1)))) 85 0 = S 85 0 := rfl
    have ex_1 : (us S 82 ((uq (S 82) 3 ((S 82 3) + 1)))) 85 1 = S 85 1 := rfl
    have ex_r : runsF (mw (us S 82 ((uq (S 82) 3 ((S 82 3) + 1)))) 85) = runsF (mw S 85) := rfl
    refine g_callV (n := 82) (ty := tyX8) (q := 117) (As := [.ref (yA Y 85)]) (st := []) B dX8_readCommand_114 rfl (c_X8_readJewel (l := xL X) (S := (us S 82 ((uq (S 82) 3 ((S 82 3) + 1))))) hwx hz (show 0 ≤ S 82 3 + 1 ∧ S 82 3 + 1 ≤ 120 by omega) ht) eX8_readJewel w1024 (by decide) (us_eq _ _ _) rfl cls6 rfl rfl (Nat.le_of_ble_eq_true rfl) (g_kV (fun Sy hSy => ?_))
    obtain ⟨haSy, hbSy, hfSy, hdSy⟩ := hSy
    refine g_zret B E dX8_readCommand_117 rfl (nz_01 (rjO_in _ _ _)) ?_
    have eO : kO (S 83 (S 82 3)) (S 83) (S 82 1) (S 82 3 + 1) = rjO (S 83) (S 82 1) (S 82 3 + 1) := by rw [cq21]; rfl
    have eP : kP (S 83 (S 82 3)) (S 83) (S 82 1) (S 82 3 + 1) = rjP (S 83) (S 82 1) (S 82 3 + 1) := by rw [cq21]; rfl
    refine ⟨congrArg (fun z => some (Value.int (iI z))) eO.symm, haSy.trans eP.symm, fun c h3 h4 => (hbSy c h3 h4).trans (uq_ne _ _ h3), fun m h5 h2 => (hfSy m h5 h2).trans (us_ne _ _ h2), fun h1 => ?_⟩
    rw [eO] at h1
    have h9 := hdSy h1
    rw [cq21]
    exact ⟨h9.1, h9.2⟩
  · refine g_tsIn (q := 167) B 109 dX8_readCommand_21 cq21 ⟨by decide, by decide, by decide, by decide⟩ rfl (by decide) ?_
    refine g_aload_n (q := 168) B dX8_readCommand_167 rfl 1 rfl ?_
    refine g_iconst (q := 169) B dX8_readCommand_168 rfl ?_
    refine g_iconst (q := 170) B dX8_readCommand_169 rfl ?_
    refine g_iconst (q := 171) B dX8_readCommand_170 rfl ?_
    refine g_bipush (q := 173) B dX8_readCommand_171 rfl (by decide) ?_
    refine g_callV (n := 82) (ty := tyX8) (q := 176) (As := [.int (iI 0), .int (iI 2), .int (iI 1), .int (iI 15)]) (st := []) B dX8_readCommand_173 rfl (c_fig (l := xL X) (S := (us S 82 ((uq (S 82) 3 ((S 82 3) + 1))))) (S 82 3 + 1) 2 1 15 rfl (by omega) (by omega) (by omega) hz (by omega) ht) eX8_figures w1029 (by decide) (us_eq _ _ _) rfl cls6 rfl rfl (Nat.le_of_ble_eq_true rfl) (g_kE ?_)
    have hfv2115 := fgV_in (S 83) (S 82 1) (S 82 3 + 1) 2 (lo := 1) (hi := 15) (by decide)
    have hfp2115 : (S 82 3 + 1) ≤ S 82 1 → (S 82 3 + 1) ≤ fgP (S 83) (S 82 1) (S 82 3 + 1) 2 1 15 ∧ fgP (S 83) (S 82 1) (S 82 3 + 1) 2 1 15 ≤ S 82 1 := fun h => fgP_in 2 1 15 h
    refine g_istore_n (q := 177) B dX8_readCommand_176 rfl (by decide) (L' := [(3, .int (iI (fgV (S 83) (S 82 1) (S 82 3 + 1) 2 1 15))), (2, .int (iI (S 83 (S 82 3)))), (0, .ref (yA Y 82)), (1, .ref (yA Y 85))]) rfl ?_
    refine g_iload_n (q := 178) B dX8_readCommand_177 rfl 0 rfl ?_
    refine g_iconst (q := 179) B dX8_readCommand_178 rfl ?_
    refine g_icmp_eq (t := 225) (q := 182) B dX8_readCommand_179 (by decide) rfl ⟨by omega, by omega⟩ ⟨by omega, by omega⟩ (fun cq179 => ?_) (fun cq179 => ?_)
    · refine g_iconst (q := 226) B dX8_readCommand_225 rfl ?_
      refine g_zret B E dX8_readCommand_226 rfl (by decide) ?_
      have eO : kO (S 83 (S 82 3)) (S 83) (S 82 1) (S 82 3 + 1) = 0 := by rw [cq21]; show yes (fgV (S 83) (S 82 1) (S 82 3 + 1) 2 1 15) = 0; rw [yes, if_pos (by omega)]
      refine ⟨congrArg (fun z => some (Value.int (iI z))) (show (0 : Int) = _ from eO.symm), (show _ = kP (S 83 (S 82 3)) (S 83) (S 82 1) (S 82 3 + 1) by rw [cq21]; rfl), fun c h3 h4 => by simp only [us_eq, us_ne _ _ (show (82 : Nat) ≠ 85 by decide), uq_ne _ _ h3, uq_ne _ _ h4], fun m h5 h2 => by simp only [us_ne _ _ h2, us_ne _ _ h5], fun h1 => ?_⟩
      rw [eO] at h1; exact absurd h1 (by decide)
    · refine g_aload_n (q := 183) B dX8_readCommand_182 rfl 2 rfl ?_
      refine g_aload_n (q := 184) B dX8_readCommand_183 rfl 3 rfl ?_
      refine g_iload_n (q := 185) B dX8_readCommand_184 rfl 0 rfl ?_
      have hwx : wf (mw (us (us S 82 ((uq (S 82) 3 ((S 82 3) + 1)))) 82 ((uq ((uq (S 82) 3 ((S 82 3) + 1))) 3 (fgP (S 83) (S 82 1) (S 82 3 + 1) 2 1 15)))) 85) := hw
      have ex_0 : (us (us S 82 ((uq (S 82) 3 ((S 82 3) + 1)))) 82 ((uq ((uq (S 82) 3 ((S 82 3) + 1))) 3 (fgP (S 83) (S 82 1) (S 82 3 + 1) 2 1 15)))) 85 0 = S 85 0 := rfl
      have ex_1 : (us (us S 82 ((uq (S 82) 3 ((S 82 3) + 1)))) 82 ((uq ((uq (S 82) 3 ((S 82 3) + 1))) 3 (fgP (S 83) (S 82 1) (S 82 3 + 1) 2 1 15)))) 85 1 = S 85 1 := rfl
      have ex_r : runsF (mw (us (us S 82 ((uq (S 82) 3 ((S 82 3) + 1)))) 82 ((uq ((uq (S 82) 3 ((S 82 3) + 1))) 3 (fgP (S 83) (S 82 1) (S 82 3 + 1) 2 1 15)))) 85) = runsF (mw S 85) := rfl
      refine g_callS (q := 188) (As := [.ref (yA Y 85), .int (iI (fgV (S 83) (S 82 1) (S 82 3 + 1) 2 1 15))]) (st := [.ref (yA Y 82)]) B dX8_readCommand_185 rfl (c_X8_isCutPlace (l := xL X) (S := (us (us S 82 ((uq (S 82) 3 ((S 82 3) + 1)))) 82 ((uq ((uq (S 82) 3 ((S 82 3) + 1))) 3 (fgP (S 83) (S 82 1) (S 82 3 + 1) 2 1 15))))) (Or.inr rfl) (wf.b hwx) (fgV (S 83) (S 82 1) (S 82 3 + 1) 2 1 15) ⟨by omega, by omega⟩) eX8_isCutPlace w1047 (by decide) rfl rfl (Nat.le_of_ble_eq_true rfl) (g_kE ?_)
      refine g_ifb_eq (t := 214) (q := 191) B dX8_readCommand_188 (by decide) rfl (fun cq188 => ?_) (fun cq188 => ?_)
      · refine g_iconst (q := 215) B dX8_readCommand_214 rfl ?_
        refine g_callV (n := 82) (ty := tyX8) (q := 218) (As := [.int (iI 0)]) (st := []) B dX8_readCommand_215 rfl (c_X8_done (l := xL X) (S := (us (us S 82 ((uq (S 82) 3 ((S 82 3) + 1)))) 82 ((uq ((uq (S 82) 3 ((S 82 3) + 1))) 3 (fgP (S 83) (S 82 1) (S 82 3 + 1) 2 1 15))))) 0 (by omega)) eX8_done w1037 (by decide) (us_eq _ _ _) rfl cls6 rfl rfl (Nat.le_of_ble_eq_true rfl) (g_kE ?_)
        refine g_if_eq (t := 225) (q := 221) B dX8_readCommand_218 (by decide) rfl ⟨by omega, by omega⟩ (fun cq218 => ?_) (fun cq218 => ?_)
        · exact absurd cq218 (by omega)
        · refine g_iconst (q := 222) B dX8_readCommand_221 rfl ?_
          refine g_goto (q := 226) B dX8_readCommand_222 (by decide) ?_
          refine g_zret B E dX8_readCommand_226 rfl (by decide) ?_
          have eO : kO (S 83 (S 82 3)) (S 83) (S 82 1) (S 82 3 + 1) = 1 := by rw [cq21]; show yes (fgV (S 83) (S 82 1) (S 82 3 + 1) 2 1 15) = 1; rw [yes, if_neg (by omega)]
          have eB : kB (S 83 (S 82 3)) (S 83) (S 82 1) (S 82 3 + 1) (mw S 85) = 1 := by rw [cq21]; show (if fgV (S 83) (S 82 1) (S 82 3 + 1) 2 1 15 < S 85 0 then 0 else 1) = (1 : Int); exact if_neg (by omega)
          refine ⟨congrArg (fun z => some (Value.int (iI z))) (show (1 : Int) = _ from eO.symm), (show _ = kP (S 83 (S 82 3)) (S 83) (S 82 1) (S 82 3 + 1) by rw [cq21]; rfl), fun c h3 h4 => by simp only [us_eq, us_ne _ _ (show (82 : Nat) ≠ 85 by decide), uq_ne _ _ h3, uq_ne _ _ h4], fun m h5 h2 => by simp only [us_ne _ _ h2, us_ne _ _ h5], fun h1 => ?_⟩
          refine ⟨by rw [cq21]; show _ = cutG (mw S 85) (fgV (S 83) (S 82 1) (S 82 3 + 1) 2 1 15) 0; simp only [mw_ne (show (85 : Nat) ≠ 82 by decide)]; rw [cutG, if_neg (by rw [mw_0]; omega)], ?_⟩
          rw [eB]
          rfl
      · refine g_aload_n (q := 192) B dX8_readCommand_191 rfl 3 rfl ?_
        refine g_iload_n (q := 193) B dX8_readCommand_192 rfl 0 rfl ?_
        refine g_iload_n (q := 194) B dX8_readCommand_193 rfl 1 rfl ?_
        refine g_bipush (q := 196) B dX8_readCommand_194 rfl (by decide) ?_
        refine g_icmp_ne (t := 203) (q := 199) B dX8_readCommand_196 (by decide) rfl ⟨by omega, by omega⟩ ⟨by omega, by omega⟩ (fun cq196 => ?_) (fun cq196 => ?_)
        · refine g_iconst (q := 204) B dX8_readCommand_203 rfl ?_
          have hwx : wf (mw (us (us S 82 ((uq (S 82) 3 ((S 82 3) + 1)))) 82 ((uq ((uq (S 82) 3 ((S 82 3) + 1))) 3 (fgP (S 83) (S 82 1) (S 82 3 + 1) 2 1 15)))) 85) := hw
          have ex_0 : (us (us S 82 ((uq (S 82) 3 ((S 82 3) + 1)))) 82 ((uq ((uq (S 82) 3 ((S 82 3) + 1))) 3 (fgP (S 83) (S 82 1) (S 82 3 + 1) 2 1 15)))) 85 0 = S 85 0 := rfl
          have ex_1 : (us (us S 82 ((uq (S 82) 3 ((S 82 3) + 1)))) 82 ((uq ((uq (S 82) 3 ((S 82 3) + 1))) 3 (fgP (S 83) (S 82 1) (S 82 3 + 1) 2 1 15)))) 85 1 = S 85 1 := rfl
          have ex_r : runsF (mw (us (us S 82 ((uq (S 82) 3 ((S 82 3) + 1)))) 82 ((uq ((uq (S 82) 3 ((S 82 3) + 1))) 3 (fgP (S 83) (S 82 1) (S 82 3 + 1) 2 1 15)))) 85) = runsF (mw S 85) := rfl
          refine g_callS (q := 207) (As := [.ref (yA Y 85), .int (iI (fgV (S 83) (S 82 1) (S 82 3 + 1) 2 1 15)), .int (iI 0)]) (st := [.ref (yA Y 82)]) B dX8_readCommand_204 rfl (c_X8_cutOn (l := xL X) (S := (us (us S 82 ((uq (S 82) 3 ((S 82 3) + 1)))) 82 ((uq ((uq (S 82) 3 ((S 82 3) + 1))) 3 (fgP (S 83) (S 82 1) (S 82 3 + 1) 2 1 15))))) (Or.inr rfl) hwx (fgV (S 83) (S 82 1) (S 82 3 + 1) 2 1 15) 0 (by omega) (by omega) (by omega)) eX8_cutOn w1050 (by decide) rfl rfl (Nat.le_of_ble_eq_true rfl) (g_kV (fun Sy hSy => ?_))
          obtain ⟨hvSy, hfSy⟩ := hSy
          have := runsF_in (cutF (mw (us (us S 82 ((uq (S 82) 3 ((S 82 3) + 1)))) 82 ((uq ((uq (S 82) 3 ((S 82 3) + 1))) 3 (fgP (S 83) (S 82 1) (S 82 3 + 1) 2 1 15)))) 85) (fgV (S 83) (S 82 1) (S 82 3 + 1) 2 1 15) ((0 : Int) = 1))
          have := cutF_r (g := mw (us (us S 82 ((uq (S 82) 3 ((S 82 3) + 1)))) 82 ((uq ((uq (S 82) 3 ((S 82 3) + 1))) 3 (fgP (S 83) (S 82 1) (S 82 3 + 1) 2 1 15)))) 85) (fgV (S 83) (S 82 1) (S 82 3 + 1) 2 1 15) ((0 : Int) = 1) (by rw [mw_0]; omega)
          refine g_if_le (t := 214) (q := 210) B dX8_readCommand_207 (by decide) rfl ⟨by omega, by omega⟩ (fun cq207 => ?_) (fun cq207 => ?_)
          · exact absurd cq207 (by omega)
          · refine g_iconst (q := 211) B dX8_readCommand_210 rfl ?_
            refine g_goto (q := 215) B dX8_readCommand_211 (by decide) ?_
            refine g_callV (n := 82) (ty := tyX8) (q := 218) (As := [.int (iI 1)]) (st := []) B dX8_readCommand_215 rfl (c_X8_done (l := xL X) (S := Sy) 1 (by omega)) eX8_done w1037 (by decide) rfl rfl cls6 rfl rfl (Nat.le_of_ble_eq_true rfl) (g_kE ?_)
            refine g_if_eq (t := 225) (q := 221) B dX8_readCommand_218 (by decide) rfl ⟨by omega, by omega⟩ (fun cq218 => ?_) (fun cq218 => ?_)
            · exact absurd cq218 (by omega)
            · refine g_iconst (q := 222) B dX8_readCommand_221 rfl ?_
              refine g_goto (q := 226) B dX8_readCommand_222 (by decide) ?_
              refine g_zret B E dX8_readCommand_226 rfl (by decide) ?_
              have eO : kO (S 83 (S 82 3)) (S 83) (S 82 1) (S 82 3 + 1) = 1 := by rw [cq21]; show yes (fgV (S 83) (S 82 1) (S 82 3 + 1) 2 1 15) = 1; rw [yes, if_neg (by omega)]
              have eB : kB (S 83 (S 82 3)) (S 83) (S 82 1) (S 82 3 + 1) (mw S 85) = 0 := by rw [cq21]; show (if fgV (S 83) (S 82 1) (S 82 3 + 1) 2 1 15 < S 85 0 then 0 else 1) = (0 : Int); exact if_pos (by omega)
              have e82 := hfSy 82 (by decide)
              refine ⟨congrArg (fun z => some (Value.int (iI z))) (show (1 : Int) = _ from eO.symm), (congrFun e82 3).trans ((show _ = kP (S 83 (S 82 3)) (S 83) (S 82 1) (S 82 3 + 1) by rw [cq21]; rfl)), fun c h3 h4 => by simp only [us_eq, e82, uq_ne _ _ h3, uq_ne _ _ h4], fun m h5 h2 => by simp only [us_ne _ _ h2, hfSy m h5], fun h1 => ?_⟩
              refine ⟨by rw [cq21]; show _ = cutG (mw S 85) (fgV (S 83) (S 82 1) (S 82 3 + 1) 2 1 15) 0; rw [mw_ne (by decide), hvSy]; rw [cutG, if_pos (by rw [mw_0]; omega)]; rfl, ?_⟩
              have e4 := congrFun e82 4
              rw [eB]
              show Sy 82 4 + (if (1 : Int) = 0 then 1 else 0) = S 82 4 + 0
              rw [if_neg (by decide)]
              exact congrArg (· + 0) e4
        · exact absurd cq196 (by omega)
  · refine g_tsIn (q := 431) B 114 dX8_readCommand_21 cq21 ⟨by decide, by decide, by decide, by decide⟩ rfl (by decide) ?_
    refine g_aload_n (q := 432) B dX8_readCommand_431 rfl 1 rfl ?_
    refine g_aload_n (q := 433) B dX8_readCommand_432 rfl 2 rfl ?_
    have hwx : wf (mw (us S 82 ((uq (S 82) 3 ((S 82 3) + 1)))) 85) := hw
    have ex_0 : (us S 82 ((uq (S 82) 3 ((S 82 3) + 1)))) 85 0 = S 85 0 := rfl
    have ex_1 : (us S 82 ((uq (S 82) 3 ((S 82 3) + 1)))) 85 1 = S 85 1 := rfl
    have ex_r : runsF (mw (us S 82 ((uq (S 82) 3 ((S 82 3) + 1)))) 85) = runsF (mw S 85) := rfl
    refine g_callS (q := 436) (As := [.ref (yA Y 85)]) (st := [.ref (yA Y 82)]) B dX8_readCommand_433 rfl (c_X8_roundOn (l := xL X) (S := (us S 82 ((uq (S 82) 3 ((S 82 3) + 1))))) (Or.inr rfl) hwx  ) eX8_roundOn w1095 (by decide) rfl rfl (Nat.le_of_ble_eq_true rfl) (g_kV (fun Sy hSy => ?_))
    obtain ⟨hvSy, hfSy⟩ := hSy
    refine g_if_lt (t := 443) (q := 439) B dX8_readCommand_436 (by decide) rfl ⟨by omega, by omega⟩ (fun cq436 => ?_) (fun cq436 => ?_)
    · exact absurd cq436 (by omega)
    · refine g_iconst (q := 440) B dX8_readCommand_439 rfl ?_
      refine g_goto (q := 444) B dX8_readCommand_440 (by decide) ?_
      refine g_callV (n := 82) (ty := tyX8) (q := 447) (As := [.int (iI 1)]) (st := []) B dX8_readCommand_444 rfl (c_X8_done (l := xL X) (S := Sy) 1 (by omega)) eX8_done w1037 (by decide) rfl rfl cls6 rfl rfl (Nat.le_of_ble_eq_true rfl) (g_kE ?_)
      refine g_zret B E dX8_readCommand_447 rfl (by decide) ?_
      have eO : kO (S 83 (S 82 3)) (S 83) (S 82 1) (S 82 3 + 1) = 1 := by rw [cq21]; rfl
      have eB : kB (S 83 (S 82 3)) (S 83) (S 82 1) (S 82 3 + 1) (mw S 85) = 0 := by rw [cq21]; show (0) = (0 : Int); exact rfl
      have e82 := hfSy 82 (by decide)
      refine ⟨congrArg (fun z => some (Value.int (iI z))) (show (1 : Int) = _ from eO.symm), (congrFun e82 3).trans ((show _ = kP (S 83 (S 82 3)) (S 83) (S 82 1) (S 82 3 + 1) by rw [cq21]; rfl)), fun c h3 h4 => by simp only [us_eq, e82, uq_ne _ _ h3, uq_ne _ _ h4], fun m h5 h2 => by simp only [us_ne _ _ h2, hfSy m h5], fun h1 => ?_⟩
      refine ⟨by rw [cq21]; show _ = revF (mw S 85); rw [mw_ne (by decide), hvSy]; rfl, ?_⟩
      have e4 := congrFun e82 4
      rw [eB]
      show Sy 82 4 + (if (1 : Int) = 0 then 1 else 0) = S 82 4 + 0
      rw [if_neg (by decide)]
      exact congrArg (· + 0) e4
  · refine g_tsIn (q := 396) B 115 dX8_readCommand_21 cq21 ⟨by decide, by decide, by decide, by decide⟩ rfl (by decide) ?_
    refine g_aload_n (q := 397) B dX8_readCommand_396 rfl 1 rfl ?_
    refine g_iconst (q := 398) B dX8_readCommand_397 rfl ?_
    refine g_iconst (q := 399) B dX8_readCommand_398 rfl ?_
    refine g_iconst (q := 400) B dX8_readCommand_399 rfl ?_
    refine g_iconst (q := 401) B dX8_readCommand_400 rfl ?_
    refine g_callV (n := 82) (ty := tyX8) (q := 404) (As := [.int (iI 0), .int (iI 1), .int (iI 0), .int (iI 1)]) (st := []) B dX8_readCommand_401 rfl (c_fig (l := xL X) (S := (us S 82 ((uq (S 82) 3 ((S 82 3) + 1))))) (S 82 3 + 1) 1 0 1 rfl (by omega) (by omega) (by omega) hz (by omega) ht) eX8_figures w1029 (by decide) (us_eq _ _ _) rfl cls6 rfl rfl (Nat.le_of_ble_eq_true rfl) (g_kE ?_)
    have hfv101 := fgV_in (S 83) (S 82 1) (S 82 3 + 1) 1 (lo := 0) (hi := 1) (by decide)
    have hfp101 : (S 82 3 + 1) ≤ S 82 1 → (S 82 3 + 1) ≤ fgP (S 83) (S 82 1) (S 82 3 + 1) 1 0 1 ∧ fgP (S 83) (S 82 1) (S 82 3 + 1) 1 0 1 ≤ S 82 1 := fun h => fgP_in 1 0 1 h
    refine g_istore_n (q := 405) B dX8_readCommand_404 rfl (by decide) (L' := [(3, .int (iI (fgV (S 83) (S 82 1) (S 82 3 + 1) 1 0 1))), (2, .int (iI (S 83 (S 82 3)))), (0, .ref (yA Y 82)), (1, .ref (yA Y 85))]) rfl ?_
    refine g_aload_n (q := 406) B dX8_readCommand_405 rfl 3 rfl ?_
    refine g_iconst (q := 407) B dX8_readCommand_406 rfl ?_
    refine g_iload_n (q := 408) B dX8_readCommand_407 rfl 0 rfl ?_
    refine g_iconst (q := 409) B dX8_readCommand_408 rfl ?_
    refine g_icmp_ne (t := 418) (q := 412) B dX8_readCommand_409 (by decide) rfl ⟨by omega, by omega⟩ ⟨by omega, by omega⟩ (fun cq409 => ?_) (fun cq409 => ?_)
    · refine g_iload_n (q := 419) B dX8_readCommand_418 rfl 0 rfl ?_
      refine g_iast (n := 85) (q := 420) B dX8_readCommand_419 rfl ((us_ne _ _ (by omega)).trans ((us_ne _ _ (by omega)).trans rfl)) (fun _ => rfl) (by decide) (by omega) (by omega) ?_
      refine g_iload_n (q := 421) B dX8_readCommand_420 rfl 0 rfl ?_
      refine g_iconst (q := 422) B dX8_readCommand_421 rfl ?_
      refine g_icmp_eq (t := 429) (q := 425) B dX8_readCommand_422 (by decide) rfl ⟨by omega, by omega⟩ ⟨by omega, by omega⟩ (fun cq422 => ?_) (fun cq422 => ?_)
      · exact absurd cq422 (by omega)
      · refine g_iconst (q := 426) B dX8_readCommand_425 rfl ?_
        refine g_goto (q := 430) B dX8_readCommand_426 (by decide) ?_
        refine g_zret B E dX8_readCommand_430 rfl (by decide) ?_
        have eO : kO (S 83 (S 82 3)) (S 83) (S 82 1) (S 82 3 + 1) = 1 := by rw [cq21]; show yes (fgV (S 83) (S 82 1) (S 82 3 + 1) 1 0 1) = 1; rw [yes, if_neg (by omega)]
        refine ⟨congrArg (fun z => some (Value.int (iI z))) (show (1 : Int) = _ from eO.symm), (show _ = kP (S 83 (S 82 3)) (S 83) (S 82 1) (S 82 3 + 1) by rw [cq21]; rfl), fun c h3 h4 => by simp only [us_eq, us_ne _ _ (show (82 : Nat) ≠ 85 by decide), uq_ne _ _ h3, uq_ne _ _ h4], fun m h5 h2 => by simp only [us_ne _ _ h2, us_ne _ _ h5], fun h1 => ?_⟩
        refine ⟨by rw [cq21]; show _ = setG (mw S 85) (fgV (S 83) (S 82 1) (S 82 3 + 1) 1 0 1); rw [setG, if_pos (by omega), mw_set, mwr_uq _ (by decide) (by decide)]; rfl, ?_⟩
        show S 82 4 = S 82 4 + kB (S 83 (S 82 3)) (S 83) (S 82 1) (S 82 3 + 1) (mw S 85)
        rw [cq21]
        exact (Int.add_zero _).symm
    · refine g_aload_n (q := 413) B dX8_readCommand_412 rfl 3 rfl ?_
      refine g_iconst (q := 414) B dX8_readCommand_413 rfl ?_
      refine g_iald (n := 85) (q := 415) B dX8_readCommand_414 rfl ((us_ne _ _ (by omega)).trans ((us_ne _ _ (by omega)).trans rfl)) rfl (by decide) (by omega) (by omega) ?_
      refine g_goto (q := 419) B dX8_readCommand_415 (by decide) ?_
      refine g_iast (n := 85) (q := 420) B dX8_readCommand_419 rfl ((us_ne _ _ (by omega)).trans ((us_ne _ _ (by omega)).trans rfl)) (fun _ => rfl) (by decide) (by omega) (by omega) ?_
      refine g_iload_n (q := 421) B dX8_readCommand_420 rfl 0 rfl ?_
      refine g_iconst (q := 422) B dX8_readCommand_421 rfl ?_
      refine g_icmp_eq (t := 429) (q := 425) B dX8_readCommand_422 (by decide) rfl ⟨by omega, by omega⟩ ⟨by omega, by omega⟩ (fun cq422 => ?_) (fun cq422 => ?_)
      · refine g_iconst (q := 430) B dX8_readCommand_429 rfl ?_
        refine g_zret B E dX8_readCommand_430 rfl (by decide) ?_
        have eO : kO (S 83 (S 82 3)) (S 83) (S 82 1) (S 82 3 + 1) = 0 := by rw [cq21]; show yes (fgV (S 83) (S 82 1) (S 82 3 + 1) 1 0 1) = 0; rw [yes, if_pos (by omega)]
        refine ⟨congrArg (fun z => some (Value.int (iI z))) (show (0 : Int) = _ from eO.symm), (show _ = kP (S 83 (S 82 3)) (S 83) (S 82 1) (S 82 3 + 1) by rw [cq21]; rfl), fun c h3 h4 => by simp only [us_eq, us_ne _ _ (show (82 : Nat) ≠ 85 by decide), uq_ne _ _ h3, uq_ne _ _ h4], fun m h5 h2 => by simp only [us_ne _ _ h2, us_ne _ _ h5], fun h1 => ?_⟩
        rw [eO] at h1; exact absurd h1 (by decide)
      · exact absurd cq422 (by omega)
  · refine g_tsIn (q := 299) B 116 dX8_readCommand_21 cq21 ⟨by decide, by decide, by decide, by decide⟩ rfl (by decide) ?_
    refine g_aload_n (q := 300) B dX8_readCommand_299 rfl 1 rfl ?_
    refine g_iconst (q := 301) B dX8_readCommand_300 rfl ?_
    refine g_iconst (q := 302) B dX8_readCommand_301 rfl ?_
    refine g_iconst (q := 303) B dX8_readCommand_302 rfl ?_
    refine g_bipush (q := 305) B dX8_readCommand_303 rfl (by decide) ?_
    refine g_callV (n := 82) (ty := tyX8) (q := 308) (As := [.int (iI 0), .int (iI 2), .int (iI 0), .int (iI 15)]) (st := []) B dX8_readCommand_305 rfl (c_fig (l := xL X) (S := (us S 82 ((uq (S 82) 3 ((S 82 3) + 1))))) (S 82 3 + 1) 2 0 15 rfl (by omega) (by omega) (by omega) hz (by omega) ht) eX8_figures w1029 (by decide) (us_eq _ _ _) rfl cls6 rfl rfl (Nat.le_of_ble_eq_true rfl) (g_kE ?_)
    have hfv2015 := fgV_in (S 83) (S 82 1) (S 82 3 + 1) 2 (lo := 0) (hi := 15) (by decide)
    have hfp2015 : (S 82 3 + 1) ≤ S 82 1 → (S 82 3 + 1) ≤ fgP (S 83) (S 82 1) (S 82 3 + 1) 2 0 15 ∧ fgP (S 83) (S 82 1) (S 82 3 + 1) 2 0 15 ≤ S 82 1 := fun h => fgP_in 2 0 15 h
    refine g_istore_n (q := 309) B dX8_readCommand_308 rfl (by decide) (L' := [(3, .int (iI (fgV (S 83) (S 82 1) (S 82 3 + 1) 2 0 15))), (2, .int (iI (S 83 (S 82 3)))), (0, .ref (yA Y 82)), (1, .ref (yA Y 85))]) rfl ?_
    refine g_iload_n (q := 310) B dX8_readCommand_309 rfl 0 rfl ?_
    refine g_iconst (q := 311) B dX8_readCommand_310 rfl ?_
    refine g_icmp_eq (t := 354) (q := 314) B dX8_readCommand_311 (by decide) rfl ⟨by omega, by omega⟩ ⟨by omega, by omega⟩ (fun cq311 => ?_) (fun cq311 => ?_)
    · refine g_iconst (q := 355) B dX8_readCommand_354 rfl ?_
      refine g_zret B E dX8_readCommand_355 rfl (by decide) ?_
      have eO : kO (S 83 (S 82 3)) (S 83) (S 82 1) (S 82 3 + 1) = 0 := by rw [cq21]; show yes (fgV (S 83) (S 82 1) (S 82 3 + 1) 2 0 15) = 0; rw [yes, if_pos (by omega)]
      refine ⟨congrArg (fun z => some (Value.int (iI z))) (show (0 : Int) = _ from eO.symm), (show _ = kP (S 83 (S 82 3)) (S 83) (S 82 1) (S 82 3 + 1) by rw [cq21]; rfl), fun c h3 h4 => by simp only [us_eq, us_ne _ _ (show (82 : Nat) ≠ 85 by decide), uq_ne _ _ h3, uq_ne _ _ h4], fun m h5 h2 => by simp only [us_ne _ _ h2, us_ne _ _ h5], fun h1 => ?_⟩
      rw [eO] at h1; exact absurd h1 (by decide)
    · refine g_aload_n (q := 315) B dX8_readCommand_314 rfl 2 rfl ?_
      refine g_aload_n (q := 316) B dX8_readCommand_315 rfl 3 rfl ?_
      refine g_iload_n (q := 317) B dX8_readCommand_316 rfl 0 rfl ?_
      have hwx : wf (mw (us (us S 82 ((uq (S 82) 3 ((S 82 3) + 1)))) 82 ((uq ((uq (S 82) 3 ((S 82 3) + 1))) 3 (fgP (S 83) (S 82 1) (S 82 3 + 1) 2 0 15)))) 85) := hw
      have ex_0 : (us (us S 82 ((uq (S 82) 3 ((S 82 3) + 1)))) 82 ((uq ((uq (S 82) 3 ((S 82 3) + 1))) 3 (fgP (S 83) (S 82 1) (S 82 3 + 1) 2 0 15)))) 85 0 = S 85 0 := rfl
      have ex_1 : (us (us S 82 ((uq (S 82) 3 ((S 82 3) + 1)))) 82 ((uq ((uq (S 82) 3 ((S 82 3) + 1))) 3 (fgP (S 83) (S 82 1) (S 82 3 + 1) 2 0 15)))) 85 1 = S 85 1 := rfl
      have ex_r : runsF (mw (us (us S 82 ((uq (S 82) 3 ((S 82 3) + 1)))) 82 ((uq ((uq (S 82) 3 ((S 82 3) + 1))) 3 (fgP (S 83) (S 82 1) (S 82 3 + 1) 2 0 15)))) 85) = runsF (mw S 85) := rfl
      refine g_callS (q := 320) (As := [.ref (yA Y 85), .int (iI (fgV (S 83) (S 82 1) (S 82 3 + 1) 2 0 15))]) (st := [.ref (yA Y 82)]) B dX8_readCommand_317 rfl (c_X8_isRun (l := xL X) (S := (us (us S 82 ((uq (S 82) 3 ((S 82 3) + 1)))) 82 ((uq ((uq (S 82) 3 ((S 82 3) + 1))) 3 (fgP (S 83) (S 82 1) (S 82 3 + 1) 2 0 15))))) (Or.inr rfl) (wf.b hwx) (fgV (S 83) (S 82 1) (S 82 3 + 1) 2 0 15) ⟨by omega, by omega⟩) eX8_isRun w1065 (by decide) rfl rfl (Nat.le_of_ble_eq_true rfl) (g_kE ?_)
      have := runsF_in (mw (us (us S 82 ((uq (S 82) 3 ((S 82 3) + 1)))) 82 ((uq ((uq (S 82) 3 ((S 82 3) + 1))) 3 (fgP (S 83) (S 82 1) (S 82 3 + 1) 2 0 15)))) 85)
      refine g_ifb_eq (t := 343) (q := 323) B dX8_readCommand_320 (by decide) rfl (fun cq320 => ?_) (fun cq320 => ?_)
      · refine g_iconst (q := 344) B dX8_readCommand_343 rfl ?_
        refine g_callV (n := 82) (ty := tyX8) (q := 347) (As := [.int (iI 0)]) (st := []) B dX8_readCommand_344 rfl (c_X8_done (l := xL X) (S := (us (us S 82 ((uq (S 82) 3 ((S 82 3) + 1)))) 82 ((uq ((uq (S 82) 3 ((S 82 3) + 1))) 3 (fgP (S 83) (S 82 1) (S 82 3 + 1) 2 0 15))))) 0 (by omega)) eX8_done w1037 (by decide) (us_eq _ _ _) rfl cls6 rfl rfl (Nat.le_of_ble_eq_true rfl) (g_kE ?_)
        refine g_if_eq (t := 354) (q := 350) B dX8_readCommand_347 (by decide) rfl ⟨by omega, by omega⟩ (fun cq347 => ?_) (fun cq347 => ?_)
        · exact absurd cq347 (by omega)
        · refine g_iconst (q := 351) B dX8_readCommand_350 rfl ?_
          refine g_goto (q := 355) B dX8_readCommand_351 (by decide) ?_
          refine g_zret B E dX8_readCommand_355 rfl (by decide) ?_
          have eO : kO (S 83 (S 82 3)) (S 83) (S 82 1) (S 82 3 + 1) = 1 := by rw [cq21]; show yes (fgV (S 83) (S 82 1) (S 82 3 + 1) 2 0 15) = 1; rw [yes, if_neg (by omega)]
          have eB : kB (S 83 (S 82 3)) (S 83) (S 82 1) (S 82 3 + 1) (mw S 85) = 1 := by rw [cq21]; show (if fgV (S 83) (S 82 1) (S 82 3 + 1) 2 0 15 < runsF (mw S 85) ∧ whyF (mw S 85) (fgV (S 83) (S 82 1) (S 82 3 + 1) 2 0 15) = 0 then 0 else 1) = (1 : Int); exact if_neg (by omega)
          refine ⟨congrArg (fun z => some (Value.int (iI z))) (show (1 : Int) = _ from eO.symm), (show _ = kP (S 83 (S 82 3)) (S 83) (S 82 1) (S 82 3 + 1) by rw [cq21]; rfl), fun c h3 h4 => by simp only [us_eq, us_ne _ _ (show (82 : Nat) ≠ 85 by decide), uq_ne _ _ h3, uq_ne _ _ h4], fun m h5 h2 => by simp only [us_ne _ _ h2, us_ne _ _ h5], fun h1 => ?_⟩
          refine ⟨by rw [cq21]; show _ = takeG (mw S 85) (fgV (S 83) (S 82 1) (S 82 3 + 1) 2 0 15); simp only [mw_ne (show (85 : Nat) ≠ 82 by decide)]; rw [takeG, if_neg (by omega)], ?_⟩
          rw [eB]
          rfl
      · refine g_aload_n (q := 324) B dX8_readCommand_323 rfl 3 rfl ?_
        refine g_iload_n (q := 325) B dX8_readCommand_324 rfl 0 rfl ?_
        have hwx : wf (mw (us (us S 82 ((uq (S 82) 3 ((S 82 3) + 1)))) 82 ((uq ((uq (S 82) 3 ((S 82 3) + 1))) 3 (fgP (S 83) (S 82 1) (S 82 3 + 1) 2 0 15)))) 85) := hw
        have ex_0 : (us (us S 82 ((uq (S 82) 3 ((S 82 3) + 1)))) 82 ((uq ((uq (S 82) 3 ((S 82 3) + 1))) 3 (fgP (S 83) (S 82 1) (S 82 3 + 1) 2 0 15)))) 85 0 = S 85 0 := rfl
        have ex_1 : (us (us S 82 ((uq (S 82) 3 ((S 82 3) + 1)))) 82 ((uq ((uq (S 82) 3 ((S 82 3) + 1))) 3 (fgP (S 83) (S 82 1) (S 82 3 + 1) 2 0 15)))) 85 1 = S 85 1 := rfl
        have ex_r : runsF (mw (us (us S 82 ((uq (S 82) 3 ((S 82 3) + 1)))) 82 ((uq ((uq (S 82) 3 ((S 82 3) + 1))) 3 (fgP (S 83) (S 82 1) (S 82 3 + 1) 2 0 15)))) 85) = runsF (mw S 85) := rfl
        refine g_callS (q := 328) (As := [.ref (yA Y 85), .int (iI (fgV (S 83) (S 82 1) (S 82 3 + 1) 2 0 15))]) (st := [.ref (yA Y 82)]) B dX8_readCommand_325 rfl (c_X8_whyNot (l := xL X) (S := (us (us S 82 ((uq (S 82) 3 ((S 82 3) + 1)))) 82 ((uq ((uq (S 82) 3 ((S 82 3) + 1))) 3 (fgP (S 83) (S 82 1) (S 82 3 + 1) 2 0 15))))) (Or.inr rfl) hwx (fgV (S 83) (S 82 1) (S 82 3 + 1) 2 0 15) (by omega) (by omega)) eX8_whyNot w1083 (by decide) rfl rfl (Nat.le_of_ble_eq_true rfl) (g_kE ?_)
        have := whyF_in (mw (us (us S 82 ((uq (S 82) 3 ((S 82 3) + 1)))) 82 ((uq ((uq (S 82) 3 ((S 82 3) + 1))) 3 (fgP (S 83) (S 82 1) (S 82 3 + 1) 2 0 15)))) 85) (fgV (S 83) (S 82 1) (S 82 3 + 1) 2 0 15)
        have hwy : whyF (mw (us (us S 82 ((uq (S 82) 3 ((S 82 3) + 1)))) 82 ((uq ((uq (S 82) 3 ((S 82 3) + 1))) 3 (fgP (S 83) (S 82 1) (S 82 3 + 1) 2 0 15)))) 85) (fgV (S 83) (S 82 1) (S 82 3 + 1) 2 0 15) = whyF (mw S 85) (fgV (S 83) (S 82 1) (S 82 3 + 1) 2 0 15) := rfl
        refine g_if_ne (t := 343) (q := 331) B dX8_readCommand_328 (by decide) rfl ⟨by omega, by omega⟩ (fun cq328 => ?_) (fun cq328 => ?_)
        · refine g_iconst (q := 344) B dX8_readCommand_343 rfl ?_
          refine g_callV (n := 82) (ty := tyX8) (q := 347) (As := [.int (iI 0)]) (st := []) B dX8_readCommand_344 rfl (c_X8_done (l := xL X) (S := (us (us S 82 ((uq (S 82) 3 ((S 82 3) + 1)))) 82 ((uq ((uq (S 82) 3 ((S 82 3) + 1))) 3 (fgP (S 83) (S 82 1) (S 82 3 + 1) 2 0 15))))) 0 (by omega)) eX8_done w1037 (by decide) (us_eq _ _ _) rfl cls6 rfl rfl (Nat.le_of_ble_eq_true rfl) (g_kE ?_)
          refine g_if_eq (t := 354) (q := 350) B dX8_readCommand_347 (by decide) rfl ⟨by omega, by omega⟩ (fun cq347 => ?_) (fun cq347 => ?_)
          · exact absurd cq347 (by omega)
          · refine g_iconst (q := 351) B dX8_readCommand_350 rfl ?_
            refine g_goto (q := 355) B dX8_readCommand_351 (by decide) ?_
            refine g_zret B E dX8_readCommand_355 rfl (by decide) ?_
            have eO : kO (S 83 (S 82 3)) (S 83) (S 82 1) (S 82 3 + 1) = 1 := by rw [cq21]; show yes (fgV (S 83) (S 82 1) (S 82 3 + 1) 2 0 15) = 1; rw [yes, if_neg (by omega)]
            have eB : kB (S 83 (S 82 3)) (S 83) (S 82 1) (S 82 3 + 1) (mw S 85) = 1 := by rw [cq21]; show (if fgV (S 83) (S 82 1) (S 82 3 + 1) 2 0 15 < runsF (mw S 85) ∧ whyF (mw S 85) (fgV (S 83) (S 82 1) (S 82 3 + 1) 2 0 15) = 0 then 0 else 1) = (1 : Int); exact if_neg (by omega)
            refine ⟨congrArg (fun z => some (Value.int (iI z))) (show (1 : Int) = _ from eO.symm), (show _ = kP (S 83 (S 82 3)) (S 83) (S 82 1) (S 82 3 + 1) by rw [cq21]; rfl), fun c h3 h4 => by simp only [us_eq, us_ne _ _ (show (82 : Nat) ≠ 85 by decide), uq_ne _ _ h3, uq_ne _ _ h4], fun m h5 h2 => by simp only [us_ne _ _ h2, us_ne _ _ h5], fun h1 => ?_⟩
            refine ⟨by rw [cq21]; show _ = takeG (mw S 85) (fgV (S 83) (S 82 1) (S 82 3 + 1) 2 0 15); simp only [mw_ne (show (85 : Nat) ≠ 82 by decide)]; rw [takeG, if_neg (by omega)], ?_⟩
            rw [eB]
            rfl
        · refine g_aload_n (q := 332) B dX8_readCommand_331 rfl 3 rfl ?_
          refine g_iload_n (q := 333) B dX8_readCommand_332 rfl 0 rfl ?_
          have hwx : wf (mw (us (us S 82 ((uq (S 82) 3 ((S 82 3) + 1)))) 82 ((uq ((uq (S 82) 3 ((S 82 3) + 1))) 3 (fgP (S 83) (S 82 1) (S 82 3 + 1) 2 0 15)))) 85) := hw
          have ex_0 : (us (us S 82 ((uq (S 82) 3 ((S 82 3) + 1)))) 82 ((uq ((uq (S 82) 3 ((S 82 3) + 1))) 3 (fgP (S 83) (S 82 1) (S 82 3 + 1) 2 0 15)))) 85 0 = S 85 0 := rfl
          have ex_1 : (us (us S 82 ((uq (S 82) 3 ((S 82 3) + 1)))) 82 ((uq ((uq (S 82) 3 ((S 82 3) + 1))) 3 (fgP (S 83) (S 82 1) (S 82 3 + 1) 2 0 15)))) 85 1 = S 85 1 := rfl
          have ex_r : runsF (mw (us (us S 82 ((uq (S 82) 3 ((S 82 3) + 1)))) 82 ((uq ((uq (S 82) 3 ((S 82 3) + 1))) 3 (fgP (S 83) (S 82 1) (S 82 3 + 1) 2 0 15)))) 85) = runsF (mw S 85) := rfl
          refine g_callS (q := 336) (As := [.ref (yA Y 85), .int (iI (fgV (S 83) (S 82 1) (S 82 3 + 1) 2 0 15))]) (st := [.ref (yA Y 82)]) B dX8_readCommand_333 rfl (c_X8_takeOn (l := xL X) (S := (us (us S 82 ((uq (S 82) 3 ((S 82 3) + 1)))) 82 ((uq ((uq (S 82) 3 ((S 82 3) + 1))) 3 (fgP (S 83) (S 82 1) (S 82 3 + 1) 2 0 15))))) (Or.inr rfl) hwx (fgV (S 83) (S 82 1) (S 82 3 + 1) 2 0 15) (by omega) (by omega)) eX8_takeOn w1089 (by decide) rfl rfl (Nat.le_of_ble_eq_true rfl) (g_kV (fun Sy hSy => ?_))
          obtain ⟨hvSy, hfSy⟩ := hSy
          have := whyF_in (mw (us (us S 82 ((uq (S 82) 3 ((S 82 3) + 1)))) 82 ((uq ((uq (S 82) 3 ((S 82 3) + 1))) 3 (fgP (S 83) (S 82 1) (S 82 3 + 1) 2 0 15)))) 85) (fgV (S 83) (S 82 1) (S 82 3 + 1) 2 0 15)
          refine g_if_ne (t := 343) (q := 339) B dX8_readCommand_336 (by decide) rfl ⟨by omega, by omega⟩ (fun cq336 => ?_) (fun cq336 => ?_)
          · exact absurd cq336 (by omega)
          · refine g_iconst (q := 340) B dX8_readCommand_339 rfl ?_
            refine g_goto (q := 344) B dX8_readCommand_340 (by decide) ?_
            refine g_callV (n := 82) (ty := tyX8) (q := 347) (As := [.int (iI 1)]) (st := []) B dX8_readCommand_344 rfl (c_X8_done (l := xL X) (S := Sy) 1 (by omega)) eX8_done w1037 (by decide) rfl rfl cls6 rfl rfl (Nat.le_of_ble_eq_true rfl) (g_kE ?_)
            refine g_if_eq (t := 354) (q := 350) B dX8_readCommand_347 (by decide) rfl ⟨by omega, by omega⟩ (fun cq347 => ?_) (fun cq347 => ?_)
            · exact absurd cq347 (by omega)
            · refine g_iconst (q := 351) B dX8_readCommand_350 rfl ?_
              refine g_goto (q := 355) B dX8_readCommand_351 (by decide) ?_
              refine g_zret B E dX8_readCommand_355 rfl (by decide) ?_
              have eO : kO (S 83 (S 82 3)) (S 83) (S 82 1) (S 82 3 + 1) = 1 := by rw [cq21]; show yes (fgV (S 83) (S 82 1) (S 82 3 + 1) 2 0 15) = 1; rw [yes, if_neg (by omega)]
              have eB : kB (S 83 (S 82 3)) (S 83) (S 82 1) (S 82 3 + 1) (mw S 85) = 0 := by rw [cq21]; show (if fgV (S 83) (S 82 1) (S 82 3 + 1) 2 0 15 < runsF (mw S 85) ∧ whyF (mw S 85) (fgV (S 83) (S 82 1) (S 82 3 + 1) 2 0 15) = 0 then 0 else 1) = (0 : Int); exact if_pos (by omega)
              have e82 := hfSy 82 (by decide)
              refine ⟨congrArg (fun z => some (Value.int (iI z))) (show (1 : Int) = _ from eO.symm), (congrFun e82 3).trans ((show _ = kP (S 83 (S 82 3)) (S 83) (S 82 1) (S 82 3 + 1) by rw [cq21]; rfl)), fun c h3 h4 => by simp only [us_eq, e82, uq_ne _ _ h3, uq_ne _ _ h4], fun m h5 h2 => by simp only [us_ne _ _ h2, hfSy m h5], fun h1 => ?_⟩
              refine ⟨by rw [cq21]; show _ = takeG (mw S 85) (fgV (S 83) (S 82 1) (S 82 3 + 1) 2 0 15); rw [mw_ne (by decide), hvSy]; rw [takeM, if_pos cq328, takeG, if_pos ⟨⟨by omega, by omega⟩, cq328⟩]; rfl, ?_⟩
              have e4 := congrFun e82 4
              rw [eB]
              show Sy 82 4 + (if (1 : Int) = 0 then 1 else 0) = S 82 4 + 0
              rw [if_neg (by decide)]
              exact congrArg (· + 0) e4
  · by_cases ho : (S 83 (S 82 3)) < 98 ∨ 116 < (S 83 (S 82 3))
    · refine g_tsOut (q := 448) B dX8_readCommand_21 ho ⟨by omega, by omega⟩ (by decide) ?_
      refine g_aload_n (q := 449) B dX8_readCommand_448 rfl 1 rfl ?_
      refine g_dup (q := 450) B dX8_readCommand_449 rfl rfl ?_
      refine g_get (n := 82) (ty := tyX8) (q := 453) (v := .int (iI ((S 82 3) + 1))) B dX8_readCommand_450 rfl (us_eq _ _ _) rfl cls6 11 (by decide) w962 rfl ?_
      refine g_iconst (q := 454) B dX8_readCommand_453 rfl ?_
      refine g_isub (q := 455) B dX8_readCommand_454 rfl ?_
      refine g_put (n := 82) (ty := tyX8) (q := 458) B dX8_readCommand_455 rfl (us_eq _ _ _) rfl cls6 11 (by decide) w962 rfl rfl rfl (Nat.le_of_ble_eq_true rfl) ((uq ((uq (S 82) 3 ((S 82 3) + 1))) 3 (((S 82 3) + 1) - 1))) rfl ?_
      refine g_eqS (us_us _ _ _ _) ?_
      refine g_iconst (q := 459) B dX8_readCommand_458 rfl ?_
      refine g_zret B E dX8_readCommand_459 rfl (by decide) ?_
      have hn := kO_no (c := S 83 (S 82 3)) (S 83) (S 82 1) (S 82 3 + 1) (by omega)
      have eO := hn.1
      refine ⟨congrArg (fun z => some (Value.int (iI z))) (show (0 : Int) = _ from eO.symm), hn.2.symm, fun c h3 h4 => by simp only [us_eq, us_ne _ _ (show (82 : Nat) ≠ 85 by decide), uq_ne _ _ h3, uq_ne _ _ h4], fun m h5 h2 => by simp only [us_ne _ _ h2, us_ne _ _ h5], fun h1 => ?_⟩
      rw [eO] at h1; exact absurd h1 (by decide)
    · rcases (show (S 83 (S 82 3)) = 101 ∨ (S 83 (S 82 3)) = 102 ∨ (S 83 (S 82 3)) = 104 ∨ (S 83 (S 82 3)) = 105 ∨ (S 83 (S 82 3)) = 107 ∨ (S 83 (S 82 3)) = 108 ∨ (S 83 (S 82 3)) = 110 ∨ (S 83 (S 82 3)) = 111 ∨ (S 83 (S 82 3)) = 112 ∨ (S 83 (S 82 3)) = 113 by omega) with ho | ho | ho | ho | ho | ho | ho | ho | ho | ho
      · refine g_tsIn (q := 448) B 101 dX8_readCommand_21 ho ⟨by decide, by decide, by decide, by decide⟩ rfl (by decide) ?_
        refine g_aload_n (q := 449) B dX8_readCommand_448 rfl 1 rfl ?_
        refine g_dup (q := 450) B dX8_readCommand_449 rfl rfl ?_
        refine g_get (n := 82) (ty := tyX8) (q := 453) (v := .int (iI ((S 82 3) + 1))) B dX8_readCommand_450 rfl (us_eq _ _ _) rfl cls6 11 (by decide) w962 rfl ?_
        refine g_iconst (q := 454) B dX8_readCommand_453 rfl ?_
        refine g_isub (q := 455) B dX8_readCommand_454 rfl ?_
        refine g_put (n := 82) (ty := tyX8) (q := 458) B dX8_readCommand_455 rfl (us_eq _ _ _) rfl cls6 11 (by decide) w962 rfl rfl rfl (Nat.le_of_ble_eq_true rfl) ((uq ((uq (S 82) 3 ((S 82 3) + 1))) 3 (((S 82 3) + 1) - 1))) rfl ?_
        refine g_eqS (us_us _ _ _ _) ?_
        refine g_iconst (q := 459) B dX8_readCommand_458 rfl ?_
        refine g_zret B E dX8_readCommand_459 rfl (by decide) ?_
        have hn := kO_no (c := S 83 (S 82 3)) (S 83) (S 82 1) (S 82 3 + 1) (by omega)
        have eO := hn.1
        refine ⟨congrArg (fun z => some (Value.int (iI z))) (show (0 : Int) = _ from eO.symm), hn.2.symm, fun c h3 h4 => by simp only [us_eq, us_ne _ _ (show (82 : Nat) ≠ 85 by decide), uq_ne _ _ h3, uq_ne _ _ h4], fun m h5 h2 => by simp only [us_ne _ _ h2, us_ne _ _ h5], fun h1 => ?_⟩
        rw [eO] at h1; exact absurd h1 (by decide)
      · refine g_tsIn (q := 448) B 102 dX8_readCommand_21 ho ⟨by decide, by decide, by decide, by decide⟩ rfl (by decide) ?_
        refine g_aload_n (q := 449) B dX8_readCommand_448 rfl 1 rfl ?_
        refine g_dup (q := 450) B dX8_readCommand_449 rfl rfl ?_
        refine g_get (n := 82) (ty := tyX8) (q := 453) (v := .int (iI ((S 82 3) + 1))) B dX8_readCommand_450 rfl (us_eq _ _ _) rfl cls6 11 (by decide) w962 rfl ?_
        refine g_iconst (q := 454) B dX8_readCommand_453 rfl ?_
        refine g_isub (q := 455) B dX8_readCommand_454 rfl ?_
        refine g_put (n := 82) (ty := tyX8) (q := 458) B dX8_readCommand_455 rfl (us_eq _ _ _) rfl cls6 11 (by decide) w962 rfl rfl rfl (Nat.le_of_ble_eq_true rfl) ((uq ((uq (S 82) 3 ((S 82 3) + 1))) 3 (((S 82 3) + 1) - 1))) rfl ?_
        refine g_eqS (us_us _ _ _ _) ?_
        refine g_iconst (q := 459) B dX8_readCommand_458 rfl ?_
        refine g_zret B E dX8_readCommand_459 rfl (by decide) ?_
        have hn := kO_no (c := S 83 (S 82 3)) (S 83) (S 82 1) (S 82 3 + 1) (by omega)
        have eO := hn.1
        refine ⟨congrArg (fun z => some (Value.int (iI z))) (show (0 : Int) = _ from eO.symm), hn.2.symm, fun c h3 h4 => by simp only [us_eq, us_ne _ _ (show (82 : Nat) ≠ 85 by decide), uq_ne _ _ h3, uq_ne _ _ h4], fun m h5 h2 => by simp only [us_ne _ _ h2, us_ne _ _ h5], fun h1 => ?_⟩
        rw [eO] at h1; exact absurd h1 (by decide)
      · refine g_tsIn (q := 448) B 104 dX8_readCommand_21 ho ⟨by decide, by decide, by decide, by decide⟩ rfl (by decide) ?_
        refine g_aload_n (q := 449) B dX8_readCommand_448 rfl 1 rfl ?_
        refine g_dup (q := 450) B dX8_readCommand_449 rfl rfl ?_
        refine g_get (n := 82) (ty := tyX8) (q := 453) (v := .int (iI ((S 82 3) + 1))) B dX8_readCommand_450 rfl (us_eq _ _ _) rfl cls6 11 (by decide) w962 rfl ?_
        refine g_iconst (q := 454) B dX8_readCommand_453 rfl ?_
        refine g_isub (q := 455) B dX8_readCommand_454 rfl ?_
        refine g_put (n := 82) (ty := tyX8) (q := 458) B dX8_readCommand_455 rfl (us_eq _ _ _) rfl cls6 11 (by decide) w962 rfl rfl rfl (Nat.le_of_ble_eq_true rfl) ((uq ((uq (S 82) 3 ((S 82 3) + 1))) 3 (((S 82 3) + 1) - 1))) rfl ?_
        refine g_eqS (us_us _ _ _ _) ?_
        refine g_iconst (q := 459) B dX8_readCommand_458 rfl ?_
        refine g_zret B E dX8_readCommand_459 rfl (by decide) ?_
        have hn := kO_no (c := S 83 (S 82 3)) (S 83) (S 82 1) (S 82 3 + 1) (by omega)
        have eO := hn.1
        refine ⟨congrArg (fun z => some (Value.int (iI z))) (show (0 : Int) = _ from eO.symm), hn.2.symm, fun c h3 h4 => by simp only [us_eq, us_ne _ _ (show (82 : Nat) ≠ 85 by decide), uq_ne _ _ h3, uq_ne _ _ h4], fun m h5 h2 => by simp only [us_ne _ _ h2, us_ne _ _ h5], fun h1 => ?_⟩
        rw [eO] at h1; exact absurd h1 (by decide)
      · refine g_tsIn (q := 448) B 105 dX8_readCommand_21 ho ⟨by decide, by decide, by decide, by decide⟩ rfl (by decide) ?_
        refine g_aload_n (q := 449) B dX8_readCommand_448 rfl 1 rfl ?_
        refine g_dup (q := 450) B dX8_readCommand_449 rfl rfl ?_
        refine g_get (n := 82) (ty := tyX8) (q := 453) (v := .int (iI ((S 82 3) + 1))) B dX8_readCommand_450 rfl (us_eq _ _ _) rfl cls6 11 (by decide) w962 rfl ?_
        refine g_iconst (q := 454) B dX8_readCommand_453 rfl ?_
        refine g_isub (q := 455) B dX8_readCommand_454 rfl ?_
        refine g_put (n := 82) (ty := tyX8) (q := 458) B dX8_readCommand_455 rfl (us_eq _ _ _) rfl cls6 11 (by decide) w962 rfl rfl rfl (Nat.le_of_ble_eq_true rfl) ((uq ((uq (S 82) 3 ((S 82 3) + 1))) 3 (((S 82 3) + 1) - 1))) rfl ?_
        refine g_eqS (us_us _ _ _ _) ?_
        refine g_iconst (q := 459) B dX8_readCommand_458 rfl ?_
        refine g_zret B E dX8_readCommand_459 rfl (by decide) ?_
        have hn := kO_no (c := S 83 (S 82 3)) (S 83) (S 82 1) (S 82 3 + 1) (by omega)
        have eO := hn.1
        refine ⟨congrArg (fun z => some (Value.int (iI z))) (show (0 : Int) = _ from eO.symm), hn.2.symm, fun c h3 h4 => by simp only [us_eq, us_ne _ _ (show (82 : Nat) ≠ 85 by decide), uq_ne _ _ h3, uq_ne _ _ h4], fun m h5 h2 => by simp only [us_ne _ _ h2, us_ne _ _ h5], fun h1 => ?_⟩
        rw [eO] at h1; exact absurd h1 (by decide)
      · refine g_tsIn (q := 448) B 107 dX8_readCommand_21 ho ⟨by decide, by decide, by decide, by decide⟩ rfl (by decide) ?_
        refine g_aload_n (q := 449) B dX8_readCommand_448 rfl 1 rfl ?_
        refine g_dup (q := 450) B dX8_readCommand_449 rfl rfl ?_
        refine g_get (n := 82) (ty := tyX8) (q := 453) (v := .int (iI ((S 82 3) + 1))) B dX8_readCommand_450 rfl (us_eq _ _ _) rfl cls6 11 (by decide) w962 rfl ?_
        refine g_iconst (q := 454) B dX8_readCommand_453 rfl ?_
        refine g_isub (q := 455) B dX8_readCommand_454 rfl ?_
        refine g_put (n := 82) (ty := tyX8) (q := 458) B dX8_readCommand_455 rfl (us_eq _ _ _) rfl cls6 11 (by decide) w962 rfl rfl rfl (Nat.le_of_ble_eq_true rfl) ((uq ((uq (S 82) 3 ((S 82 3) + 1))) 3 (((S 82 3) + 1) - 1))) rfl ?_
        refine g_eqS (us_us _ _ _ _) ?_
        refine g_iconst (q := 459) B dX8_readCommand_458 rfl ?_
        refine g_zret B E dX8_readCommand_459 rfl (by decide) ?_
        have hn := kO_no (c := S 83 (S 82 3)) (S 83) (S 82 1) (S 82 3 + 1) (by omega)
        have eO := hn.1
        refine ⟨congrArg (fun z => some (Value.int (iI z))) (show (0 : Int) = _ from eO.symm), hn.2.symm, fun c h3 h4 => by simp only [us_eq, us_ne _ _ (show (82 : Nat) ≠ 85 by decide), uq_ne _ _ h3, uq_ne _ _ h4], fun m h5 h2 => by simp only [us_ne _ _ h2, us_ne _ _ h5], fun h1 => ?_⟩
        rw [eO] at h1; exact absurd h1 (by decide)
      · refine g_tsIn (q := 448) B 108 dX8_readCommand_21 ho ⟨by decide, by decide, by decide, by decide⟩ rfl (by decide) ?_
        refine g_aload_n (q := 449) B dX8_readCommand_448 rfl 1 rfl ?_
        refine g_dup (q := 450) B dX8_readCommand_449 rfl rfl ?_
        refine g_get (n := 82) (ty := tyX8) (q := 453) (v := .int (iI ((S 82 3) + 1))) B dX8_readCommand_450 rfl (us_eq _ _ _) rfl cls6 11 (by decide) w962 rfl ?_
        refine g_iconst (q := 454) B dX8_readCommand_453 rfl ?_
        refine g_isub (q := 455) B dX8_readCommand_454 rfl ?_
        refine g_put (n := 82) (ty := tyX8) (q := 458) B dX8_readCommand_455 rfl (us_eq _ _ _) rfl cls6 11 (by decide) w962 rfl rfl rfl (Nat.le_of_ble_eq_true rfl) ((uq ((uq (S 82) 3 ((S 82 3) + 1))) 3 (((S 82 3) + 1) - 1))) rfl ?_
        refine g_eqS (us_us _ _ _ _) ?_
        refine g_iconst (q := 459) B dX8_readCommand_458 rfl ?_
        refine g_zret B E dX8_readCommand_459 rfl (by decide) ?_
        have hn := kO_no (c := S 83 (S 82 3)) (S 83) (S 82 1) (S 82 3 + 1) (by omega)
        have eO := hn.1
        refine ⟨congrArg (fun z => some (Value.int (iI z))) (show (0 : Int) = _ from eO.symm), hn.2.symm, fun c h3 h4 => by simp only [us_eq, us_ne _ _ (show (82 : Nat) ≠ 85 by decide), uq_ne _ _ h3, uq_ne _ _ h4], fun m h5 h2 => by simp only [us_ne _ _ h2, us_ne _ _ h5], fun h1 => ?_⟩
        rw [eO] at h1; exact absurd h1 (by decide)
      · refine g_tsIn (q := 448) B 110 dX8_readCommand_21 ho ⟨by decide, by decide, by decide, by decide⟩ rfl (by decide) ?_
        refine g_aload_n (q := 449) B dX8_readCommand_448 rfl 1 rfl ?_
        refine g_dup (q := 450) B dX8_readCommand_449 rfl rfl ?_
        refine g_get (n := 82) (ty := tyX8) (q := 453) (v := .int (iI ((S 82 3) + 1))) B dX8_readCommand_450 rfl (us_eq _ _ _) rfl cls6 11 (by decide) w962 rfl ?_
        refine g_iconst (q := 454) B dX8_readCommand_453 rfl ?_
        refine g_isub (q := 455) B dX8_readCommand_454 rfl ?_
        refine g_put (n := 82) (ty := tyX8) (q := 458) B dX8_readCommand_455 rfl (us_eq _ _ _) rfl cls6 11 (by decide) w962 rfl rfl rfl (Nat.le_of_ble_eq_true rfl) ((uq ((uq (S 82) 3 ((S 82 3) + 1))) 3 (((S 82 3) + 1) - 1))) rfl ?_
        refine g_eqS (us_us _ _ _ _) ?_
        refine g_iconst (q := 459) B dX8_readCommand_458 rfl ?_
        refine g_zret B E dX8_readCommand_459 rfl (by decide) ?_
        have hn := kO_no (c := S 83 (S 82 3)) (S 83) (S 82 1) (S 82 3 + 1) (by omega)
        have eO := hn.1
        refine ⟨congrArg (fun z => some (Value.int (iI z))) (show (0 : Int) = _ from eO.symm), hn.2.symm, fun c h3 h4 => by simp only [us_eq, us_ne _ _ (show (82 : Nat) ≠ 85 by decide), uq_ne _ _ h3, uq_ne _ _ h4], fun m h5 h2 => by simp only [us_ne _ _ h2, us_ne _ _ h5], fun h1 => ?_⟩
        rw [eO] at h1; exact absurd h1 (by decide)
      · refine g_tsIn (q := 448) B 111 dX8_readCommand_21 ho ⟨by decide, by decide, by decide, by decide⟩ rfl (by decide) ?_
        refine g_aload_n (q := 449) B dX8_readCommand_448 rfl 1 rfl ?_
        refine g_dup (q := 450) B dX8_readCommand_449 rfl rfl ?_
        refine g_get (n := 82) (ty := tyX8) (q := 453) (v := .int (iI ((S 82 3) + 1))) B dX8_readCommand_450 rfl (us_eq _ _ _) rfl cls6 11 (by decide) w962 rfl ?_
        refine g_iconst (q := 454) B dX8_readCommand_453 rfl ?_
        refine g_isub (q := 455) B dX8_readCommand_454 rfl ?_
        refine g_put (n := 82) (ty := tyX8) (q := 458) B dX8_readCommand_455 rfl (us_eq _ _ _) rfl cls6 11 (by decide) w962 rfl rfl rfl (Nat.le_of_ble_eq_true rfl) ((uq ((uq (S 82) 3 ((S 82 3) + 1))) 3 (((S 82 3) + 1) - 1))) rfl ?_
        refine g_eqS (us_us _ _ _ _) ?_
        refine g_iconst (q := 459) B dX8_readCommand_458 rfl ?_
        refine g_zret B E dX8_readCommand_459 rfl (by decide) ?_
        have hn := kO_no (c := S 83 (S 82 3)) (S 83) (S 82 1) (S 82 3 + 1) (by omega)
        have eO := hn.1
        refine ⟨congrArg (fun z => some (Value.int (iI z))) (show (0 : Int) = _ from eO.symm), hn.2.symm, fun c h3 h4 => by simp only [us_eq, us_ne _ _ (show (82 : Nat) ≠ 85 by decide), uq_ne _ _ h3, uq_ne _ _ h4], fun m h5 h2 => by simp only [us_ne _ _ h2, us_ne _ _ h5], fun h1 => ?_⟩
        rw [eO] at h1; exact absurd h1 (by decide)
      · refine g_tsIn (q := 448) B 112 dX8_readCommand_21 ho ⟨by decide, by decide, by decide, by decide⟩ rfl (by decide) ?_
        refine g_aload_n (q := 449) B dX8_readCommand_448 rfl 1 rfl ?_
        refine g_dup (q := 450) B dX8_readCommand_449 rfl rfl ?_
        refine g_get (n := 82) (ty := tyX8) (q := 453) (v := .int (iI ((S 82 3) + 1))) B dX8_readCommand_450 rfl (us_eq _ _ _) rfl cls6 11 (by decide) w962 rfl ?_
        refine g_iconst (q := 454) B dX8_readCommand_453 rfl ?_
        refine g_isub (q := 455) B dX8_readCommand_454 rfl ?_
        refine g_put (n := 82) (ty := tyX8) (q := 458) B dX8_readCommand_455 rfl (us_eq _ _ _) rfl cls6 11 (by decide) w962 rfl rfl rfl (Nat.le_of_ble_eq_true rfl) ((uq ((uq (S 82) 3 ((S 82 3) + 1))) 3 (((S 82 3) + 1) - 1))) rfl ?_
        refine g_eqS (us_us _ _ _ _) ?_
        refine g_iconst (q := 459) B dX8_readCommand_458 rfl ?_
        refine g_zret B E dX8_readCommand_459 rfl (by decide) ?_
        have hn := kO_no (c := S 83 (S 82 3)) (S 83) (S 82 1) (S 82 3 + 1) (by omega)
        have eO := hn.1
        refine ⟨congrArg (fun z => some (Value.int (iI z))) (show (0 : Int) = _ from eO.symm), hn.2.symm, fun c h3 h4 => by simp only [us_eq, us_ne _ _ (show (82 : Nat) ≠ 85 by decide), uq_ne _ _ h3, uq_ne _ _ h4], fun m h5 h2 => by simp only [us_ne _ _ h2, us_ne _ _ h5], fun h1 => ?_⟩
        rw [eO] at h1; exact absurd h1 (by decide)
      · refine g_tsIn (q := 448) B 113 dX8_readCommand_21 ho ⟨by decide, by decide, by decide, by decide⟩ rfl (by decide) ?_
        refine g_aload_n (q := 449) B dX8_readCommand_448 rfl 1 rfl ?_
        refine g_dup (q := 450) B dX8_readCommand_449 rfl rfl ?_
        refine g_get (n := 82) (ty := tyX8) (q := 453) (v := .int (iI ((S 82 3) + 1))) B dX8_readCommand_450 rfl (us_eq _ _ _) rfl cls6 11 (by decide) w962 rfl ?_
        refine g_iconst (q := 454) B dX8_readCommand_453 rfl ?_
        refine g_isub (q := 455) B dX8_readCommand_454 rfl ?_
        refine g_put (n := 82) (ty := tyX8) (q := 458) B dX8_readCommand_455 rfl (us_eq _ _ _) rfl cls6 11 (by decide) w962 rfl rfl rfl (Nat.le_of_ble_eq_true rfl) ((uq ((uq (S 82) 3 ((S 82 3) + 1))) 3 (((S 82 3) + 1) - 1))) rfl ?_
        refine g_eqS (us_us _ _ _ _) ?_
        refine g_iconst (q := 459) B dX8_readCommand_458 rfl ?_
        refine g_zret B E dX8_readCommand_459 rfl (by decide) ?_
        have hn := kO_no (c := S 83 (S 82 3)) (S 83) (S 82 1) (S 82 3 + 1) (by omega)
        have eO := hn.1
        refine ⟨congrArg (fun z => some (Value.int (iI z))) (show (0 : Int) = _ from eO.symm), hn.2.symm, fun c h3 h4 => by simp only [us_eq, us_ne _ _ (show (82 : Nat) ≠ 85 by decide), uq_ne _ _ h3, uq_ne _ _ h4], fun m h5 h2 => by simp only [us_ne _ _ h2, us_ne _ _ h5], fun h1 => ?_⟩
        rw [eO] at h1; exact absurd h1 (by decide)
