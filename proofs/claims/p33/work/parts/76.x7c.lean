set_option maxHeartbeats 4000000 in
theorem c_X7_fewest {Y : gY} {l : Launch} {S : SS} (hst : l.stackTraces = false) (hw : wf (vw S 0)) (h780 : S 78 0 = 0) (u : Int) (hu : rI u) : gV Y l mX7_fewest S [.ref (yA Y 72), .int (iI u)] (xO (cd_01 u) (fewF (vw S 0)) (fun S' => fdv S S')) (xE2 (cd_01 u) [eA] (fun S' => S' = S)) := by
  refine gV_of hst (by decide) (Nat.le_of_ble_eq_true rfl) ?_
  intro X hXl B V
  obtain ⟨hu0, hu1⟩ := hu
  obtain ⟨⟨hn0, hn16⟩, ⟨hb0, hb1⟩, ⟨hm0, hm1⟩, ⟨hs0, hs1⟩, ⟨hc0, hc1⟩, hct, hkw, how, hun⟩ := wfS hw
  have euq : uq (vw S 0) 1 (S (4 * 0) 1) = vw S 0 := uq_1 (vw S 0)
  show gW Y X S 0 [(0, .ref (yA Y 72)), (1, .int (iI u))] []
  refine g_iload_n (q := 1) B dX7_fewest_0 rfl 1 rfl ?_
  refine g_if_ne (t := 9) (q := 4) B dX7_fewest_1 (by decide) rfl ⟨by omega, by omega⟩ (fun cq1 => ?_) (fun cq1 => ?_)
  · refine g_iload_n (q := 10) B dX7_fewest_9 rfl 1 rfl ?_
    refine g_iconst (q := 11) B dX7_fewest_10 rfl ?_
    refine g_icmp_eq (t := 25) (q := 14) B dX7_fewest_11 (by decide) rfl ⟨by omega, by omega⟩ ⟨by omega, by omega⟩ (fun cq11 => ?_) (fun cq11 => ?_)
    · refine g_aload_n (q := 26) B dX7_fewest_25 rfl 0 rfl ?_
      refine g_get (n := 72) (ty := tyX7) (q := 29) (v := .ref (yA Y 77)) B dX7_fewest_26 rfl rfl rfl cls5 4 (by decide) w161 rfl ?_
      refine g_aload_n (q := 30) B dX7_fewest_29 rfl 0 rfl ?_
      refine g_get (n := 72) (ty := tyX7) (q := 33) (v := .ref (yA Y (4 * 0))) B dX7_fewest_30 rfl rfl rfl cls5 1 (by decide) w158 rfl ?_
      refine g_aload_n (q := 34) B dX7_fewest_33 rfl 0 rfl ?_
      refine g_get (n := 72) (ty := tyX7) (q := 37) (v := .ref (yA Y (4 * 0))) B dX7_fewest_34 rfl rfl rfl cls5 1 (by decide) w158 rfl ?_
      refine g_get (n := (4 * 0)) (ty := tyX2) (q := 40) (v := .int (iI (S ((4 * 0)) 1))) B dX7_fewest_37 rfl rfl (cw_N (by decide) (S ((4 * 0)))) cls2 1 (by decide) w70 rfl ?_
      refine g_callV (n := 77) (ty := tyX0) (q := 43) (As := [.ref (yA Y (4 * 0)), .int (iI (S ((4 * 0)) 1))]) (st := []) B dX7_fewest_40 rfl (c_X0_weigh (l := xL X) (S := S) (by decide) hw (S ((4 * 0)) 1) (by omega) (by omega) h780) eX0_weigh w697 (by decide) rfl rfl cls0 rfl rfl (Nat.le_of_ble_eq_true rfl) (g_k0 (fun Sy hSy => ?_))
      obtain ⟨hdSy, hfSy⟩ := hSy
      rw [euq] at hdSy
      refine g_aload_n (q := 44) B dX7_fewest_43 rfl 0 rfl ?_
      refine g_get (n := 72) (ty := tyX7) (q := 47) (v := .ref (yA Y 77)) B dX7_fewest_44 rfl rfl rfl cls5 4 (by decide) w161 rfl ?_
      refine g_callV (n := 77) (ty := tyX0) (q := 50) (As := []) (st := []) B dX7_fewest_47 rfl (c_X0_fewestByOwners (l := xL X) (S := Sy) hdSy hw) eX0_fewestByOwners w769 (by decide) rfl rfl cls0 rfl rfl (Nat.le_of_ble_eq_true rfl) (g_kE ?_)
      refine gx_iret B V dX7_fewest_50 ?_
      have e0 : cd_01 u = 0 := by unfold cd_01; (repeat' split) <;> omega
      have ev : fewF (vw S 0) = fewF (vw S 0) := by (repeat' split) <;> first | rfl | omega
      exact ⟨e0, by rw [ev], ⟨fun m h7 h8 _ => hfSy m h7 h8, wd_0 hdSy hw.1.1⟩⟩
    · refine gx_throwW (cls := "java/lang/IllegalArgumentException") (text := "way is neither 0 nor 1") B V gEx_A (by decide) (by decide) dX7_fewest_14 dX7_fewest_17 dX7_fewest_18 dX7_fewest_21 dX7_fewest_24 ?_
      exact ⟨0, (show cd_01 u = ((0 : Nat) : Int) + 1 by unfold cd_01; (repeat' split) <;> omega), rfl, rfl⟩
  · refine g_aload_n (q := 5) B dX7_fewest_4 rfl 0 rfl ?_
    refine g_callV (n := 72) (ty := tyX7) (q := 8) (As := []) (st := []) B dX7_fewest_5 rfl (c_X7_fewestCuts (l := xL X) (S := S) hw h780) eX7_fewestCuts w693 (by decide) rfl rfl cls5 rfl rfl (Nat.le_of_ble_eq_true rfl) (g_kV (fun Sy hSy => ?_))
    obtain ⟨hdSy, hfSy, hySy⟩ := hSy
    have hfi := isFe_in (isFe_ex (vw S 0))
    refine gx_iret B V dX7_fewest_8 ?_
    have e0 : cd_01 u = 0 := by unfold cd_01; (repeat' split) <;> omega
    have ev : fewF (vw S 0) = fewF (vw S 0) := by (repeat' split) <;> first | rfl | omega
    exact ⟨e0, by rw [ev], ⟨hfSy, wd_0 hdSy hw.1.1⟩⟩
set_option maxHeartbeats 4000000 in
theorem c_X7_divided {Y : gY} {l : Launch} {S : SS} (hst : l.stackTraces = false) (hw : wf (vw S 0)) (h780 : S 78 0 = 0) (k : Int) (hk : rI k) : gV Y l mX7_divided S [.ref (yA Y 72), .int (iI k)] (xO (cd_m1 k) (divF (vw S 0) k) (fun S' => fdv S S')) (xE2 (cd_m1 k) [eA] (fun S' => S' = S)) := by
  refine gV_of hst (by decide) (Nat.le_of_ble_eq_true rfl) ?_
  intro X hXl B V
  obtain ⟨hk0, hk1⟩ := hk
  obtain ⟨⟨hn0, hn16⟩, ⟨hb0, hb1⟩, ⟨hm0, hm1⟩, ⟨hs0, hs1⟩, ⟨hc0, hc1⟩, hct, hkw, how, hun⟩ := wfS hw
  show gW Y X S 0 [(0, .ref (yA Y 72)), (1, .int (iI k))] []
  refine g_iload_n (q := 1) B dX7_divided_0 rfl 1 rfl ?_
  refine g_if_ge (t := 15) (q := 4) B dX7_divided_1 (by decide) rfl ⟨by omega, by omega⟩ (fun cq1 => ?_) (fun cq1 => ?_)
  · refine g_iload_n (q := 16) B dX7_divided_15 rfl 1 rfl ?_
    refine g_aload_n (q := 17) B dX7_divided_16 rfl 0 rfl ?_
    refine g_callV (n := 72) (ty := tyX7) (q := 20) (As := []) (st := [.int (iI k)]) B dX7_divided_17 rfl (c_X7_fewestCuts (l := xL X) (S := S) hw h780) eX7_fewestCuts w693 (by decide) rfl rfl cls5 rfl rfl (Nat.le_of_ble_eq_true rfl) (g_kV (fun Sy hSy => ?_))
    obtain ⟨hdSy, hfSy, hySy⟩ := hSy
    have hfi := isFe_in (isFe_ex (vw S 0))
    refine g_icmp_ge (t := 34) (q := 23) B dX7_divided_20 (by decide) rfl ⟨by omega, by omega⟩ ⟨by omega, by omega⟩ (fun cq20 => ?_) (fun cq20 => ?_)
    · refine g_iconst (q := 35) B dX7_divided_34 rfl ?_
      refine gx_iret B V dX7_divided_35 ?_
      have e0 : cd_m1 k = 0 := by unfold cd_m1; (repeat' split) <;> omega
      have ev : divF (vw S 0) k = -1 := by unfold divF; exact if_neg (by omega)
      exact ⟨e0, by rw [ev], ⟨hfSy, wd_0 hdSy hw.1.1⟩⟩
    · refine g_aload_n (q := 24) B dX7_divided_23 rfl 0 rfl ?_
      refine g_get (n := 72) (ty := tyX7) (q := 27) (v := .ref (yA Y 77)) B dX7_divided_24 rfl rfl rfl cls5 4 (by decide) w161 rfl ?_
      refine g_iload_n (q := 28) B dX7_divided_27 rfl 1 rfl ?_
      refine g_callV (n := 77) (ty := tyX0) (q := 31) (As := [.int (iI k)]) (st := []) B dX7_divided_28 rfl (c_X0_foundCut (l := xL X) (S := Sy) k (by omega) (by omega)) eX0_foundCut w734 (by decide) rfl rfl cls0 rfl rfl (Nat.le_of_ble_eq_true rfl) (g_kE ?_)
      refine g_goto (q := 35) B dX7_divided_31 (by decide) ?_
      refine gx_iret B V dX7_divided_35 ?_
      have e0 : cd_m1 k = 0 := by unfold cd_m1; (repeat' split) <;> omega
      have ev : divF (vw S 0) k = Sy 79 k := by rw [divF, if_pos (by omega)]; have h9 := hySy (by omega) k.toNat (by omega); rw [show ((k.toNat : Nat) : Int) = k by omega] at h9; exact h9.symm
      exact ⟨e0, by rw [ev], ⟨hfSy, wd_0 hdSy hw.1.1⟩⟩
  · refine gx_throwW (cls := "java/lang/IllegalArgumentException") (text := "k is negative") B V gEx_A (by decide) (by decide) dX7_divided_4 dX7_divided_7 dX7_divided_8 dX7_divided_11 dX7_divided_14 ?_
    exact ⟨0, (show cd_m1 k = ((0 : Nat) : Int) + 1 by unfold cd_m1; (repeat' split) <;> omega), rfl, rfl⟩
set_option maxHeartbeats 4000000 in
theorem c_X7_leastGap {Y : gY} {l : Launch} {S : SS} (hst : l.stackTraces = false) (hw : wf (vw S 0)) (h780 : S 78 0 = 0) (m : Int) (hm : rI m) : gV Y l mX7_leastGap S [.ref (yA Y 72), .int (iI m)] (xO (cd_04 m) (lgF (vw S 0) m.toNat) (fun S' => fdv S S')) (xE2 (cd_04 m) [eA] (fun S' => S' = S)) := by
  refine gV_of hst (by decide) (Nat.le_of_ble_eq_true rfl) ?_
  intro X hXl B V
  obtain ⟨hm0, hm1⟩ := hm
  obtain ⟨⟨hn0, hn16⟩, ⟨hb0, hb1⟩, ⟨hm0, hm1⟩, ⟨hs0, hs1⟩, ⟨hc0, hc1⟩, hct, hkw, how, hun⟩ := wfS hw
  have euq : uq (vw S 0) 1 (S (4 * 0) 1) = vw S 0 := uq_1 (vw S 0)
  show gW Y X S 0 [(0, .ref (yA Y 72)), (1, .int (iI m))] []
  refine g_iload_n (q := 1) B dX7_leastGap_0 rfl 1 rfl ?_
  refine g_if_lt (t := 9) (q := 4) B dX7_leastGap_1 (by decide) rfl ⟨by omega, by omega⟩ (fun cq1 => ?_) (fun cq1 => ?_)
  · refine gx_throwW (cls := "java/lang/IllegalArgumentException") (text := "m is not 0 to 4") B V gEx_A (by decide) (by decide) dX7_leastGap_9 dX7_leastGap_12 dX7_leastGap_13 dX7_leastGap_16 dX7_leastGap_19 ?_
    exact ⟨0, (show cd_04 m = ((0 : Nat) : Int) + 1 by unfold cd_04; (repeat' split) <;> omega), rfl, rfl⟩
  · refine g_iload_n (q := 5) B dX7_leastGap_4 rfl 1 rfl ?_
    refine g_iconst (q := 6) B dX7_leastGap_5 rfl ?_
    refine g_icmp_le (t := 20) (q := 9) B dX7_leastGap_6 (by decide) rfl ⟨by omega, by omega⟩ ⟨by omega, by omega⟩ (fun cq6 => ?_) (fun cq6 => ?_)
    · refine g_aload_n (q := 21) B dX7_leastGap_20 rfl 0 rfl ?_
      refine g_get (n := 72) (ty := tyX7) (q := 24) (v := .ref (yA Y 77)) B dX7_leastGap_21 rfl rfl rfl cls5 4 (by decide) w161 rfl ?_
      refine g_aload_n (q := 25) B dX7_leastGap_24 rfl 0 rfl ?_
      refine g_get (n := 72) (ty := tyX7) (q := 28) (v := .ref (yA Y (4 * 0))) B dX7_leastGap_25 rfl rfl rfl cls5 1 (by decide) w158 rfl ?_
      refine g_aload_n (q := 29) B dX7_leastGap_28 rfl 0 rfl ?_
      refine g_get (n := 72) (ty := tyX7) (q := 32) (v := .ref (yA Y (4 * 0))) B dX7_leastGap_29 rfl rfl rfl cls5 1 (by decide) w158 rfl ?_
      refine g_get (n := (4 * 0)) (ty := tyX2) (q := 35) (v := .int (iI (S ((4 * 0)) 1))) B dX7_leastGap_32 rfl rfl (cw_N (by decide) (S ((4 * 0)))) cls2 1 (by decide) w70 rfl ?_
      refine g_callV (n := 77) (ty := tyX0) (q := 38) (As := [.ref (yA Y (4 * 0)), .int (iI (S ((4 * 0)) 1))]) (st := []) B dX7_leastGap_35 rfl (c_X0_weigh (l := xL X) (S := S) (by decide) hw (S ((4 * 0)) 1) (by omega) (by omega) h780) eX0_weigh w697 (by decide) rfl rfl cls0 rfl rfl (Nat.le_of_ble_eq_true rfl) (g_k0 (fun Sy hSy => ?_))
      obtain ⟨hdSy, hfSy⟩ := hSy
      rw [euq] at hdSy
      refine g_aload_n (q := 39) B dX7_leastGap_38 rfl 0 rfl ?_
      refine g_get (n := 72) (ty := tyX7) (q := 42) (v := .ref (yA Y 77)) B dX7_leastGap_39 rfl rfl rfl cls5 4 (by decide) w161 rfl ?_
      refine g_iload_n (q := 43) B dX7_leastGap_42 rfl 1 rfl ?_
      refine g_eqT (st' := [.int (iI (((m.toNat : Nat) : Int))), .ref (yA Y 77)]) (congrArg (fun z => Value.int (iI z) :: [.ref (yA Y 77)]) (show m = ((m.toNat : Nat) : Int) by omega)) ?_
      refine g_callV (n := 77) (ty := tyX0) (q := 46) (As := [.int (iI (((m.toNat : Nat) : Int)))]) (st := []) B dX7_leastGap_43 rfl (c_X0_leastGapWithin (l := xL X) (S := Sy) hdSy hw (m.toNat) (by omega)) eX0_leastGapWithin w795 (by decide) rfl rfl cls0 rfl rfl (Nat.le_of_ble_eq_true rfl) (g_kE ?_)
      refine gx_iret B V dX7_leastGap_46 ?_
      have e0 : cd_04 m = 0 := by unfold cd_04; (repeat' split) <;> omega
      have ev : lgF (vw S 0) m.toNat = lgF (vw S 0) (m.toNat) := by (repeat' split) <;> first | rfl | omega
      exact ⟨e0, by rw [ev], ⟨fun m h7 h8 _ => hfSy m h7 h8, wd_0 hdSy hw.1.1⟩⟩
    · refine gx_throwW (cls := "java/lang/IllegalArgumentException") (text := "m is not 0 to 4") B V gEx_A (by decide) (by decide) dX7_leastGap_9 dX7_leastGap_12 dX7_leastGap_13 dX7_leastGap_16 dX7_leastGap_19 ?_
      exact ⟨0, (show cd_04 m = ((0 : Nat) : Int) + 1 by unfold cd_04; (repeat' split) <;> omega), rfl, rfl⟩
set_option maxHeartbeats 4000000 in
theorem c_X7_ifGiven {Y : gY} {l : Launch} {S : SS} (hst : l.stackTraces = false) (hw : wf (vw S 0)) (r : Int) (hr : rI r) (o : Int) (ho : rI o) : gV Y l mX7_ifGiven S [.ref (yA Y 72), .int (iI r), .int (iI o)] (xO (cd_give (vw S 0) r o) (gapF (giveG (vw S 0) r o)) (fun S' => fr S S' 1)) (xE2 (cd_give (vw S 0) r o) [eI, eA] (fun S' => S' = S)) := by
  refine gV_of hst (by decide) (Nat.le_of_ble_eq_true rfl) ?_
  intro X hXl B V
  obtain ⟨hr0, hr1⟩ := hr
  obtain ⟨ho0, ho1⟩ := ho
  obtain ⟨⟨hn0, hn16⟩, ⟨hb0, hb1⟩, ⟨hm0, hm1⟩, ⟨hs0, hs1⟩, ⟨hc0, hc1⟩, hct, hkw, how, hun⟩ := wfS hw
  have m0 : vw S 0 0 = S (4 * 0) 0 := rfl
  have hrr := runsF_in (vw S 0)
  show gW Y X S 0 [(0, .ref (yA Y 72)), (1, .int (iI r)), (2, .int (iI o))] []
  refine g_aload_n (q := 1) B dX7_ifGiven_0 rfl 0 rfl ?_
  refine g_get (n := 72) (ty := tyX7) (q := 4) (v := .ref (yA Y (4 * 0))) B dX7_ifGiven_1 rfl rfl rfl cls5 1 (by decide) w158 rfl ?_
  refine g_iload_n (q := 5) B dX7_ifGiven_4 rfl 1 rfl ?_
  refine g_callV (n := (4 * 0)) (ty := tyX2) (q := 8) (As := [.int (iI r)]) (st := []) B dX7_ifGiven_5 rfl (c_X2_hasRun (l := xL X) (S := S) (by decide) (wf.q hw) r ⟨by omega, by omega⟩) eX2_hasRun w598 (by decide) rfl (cw_N (by decide) (S ((4 * 0)))) cls2 rfl rfl (Nat.le_of_ble_eq_true rfl) (g_kE ?_)
  have := runsF_in (vw S 0)
  refine g_ifb_ne (t := 21) (q := 11) B dX7_ifGiven_8 (by decide) rfl (fun cq8 => ?_) (fun cq8 => ?_)
  · refine g_iload_n (q := 22) B dX7_ifGiven_21 rfl 2 rfl ?_
    refine g_callS (q := 25) (As := [.int (iI o)]) (st := []) B dX7_ifGiven_22 rfl (c_X7_isOwner (l := xL X) (S := S) o ⟨by omega, by omega⟩) eX7_isOwner w665 (by decide) rfl rfl (Nat.le_of_ble_eq_true rfl) (g_kE ?_)
    refine g_ifb_ne (t := 38) (q := 28) B dX7_ifGiven_25 (by decide) rfl (fun cq25 => ?_) (fun cq25 => ?_)
    · refine g_aload_n (q := 39) B dX7_ifGiven_38 rfl 0 rfl ?_
      refine g_iload_n (q := 40) B dX7_ifGiven_39 rfl 1 rfl ?_
      refine g_iload_n (q := 41) B dX7_ifGiven_40 rfl 2 rfl ?_
      refine g_callV (n := 72) (ty := tyX7) (q := 44) (As := [.int (iI r), .int (iI o)]) (st := []) B dX7_ifGiven_41 rfl (c_X7_gapWith (l := xL X) (S := S) hw r o ⟨by omega, by omega⟩ ⟨by omega, by omega⟩) eX7_gapWith w815 (by decide) rfl rfl cls5 rfl rfl (Nat.le_of_ble_eq_true rfl) (g_kV (fun Sy hSy => ?_))
      have hgp := gapF_in (wf_giveG hw r o)
      refine gx_iret B V dX7_ifGiven_44 ?_
      have e0 : cd_give (vw S 0) r o = 0 := by unfold cd_give; (repeat' split) <;> omega
      have ev : gapF (giveG (vw S 0) r o) = gapF (giveG (vw S 0) r o) := by (repeat' split) <;> first | rfl | omega
      exact ⟨e0, by rw [ev], hSy⟩
    · refine gx_throw (cls := "java/lang/IllegalArgumentException") (text := "owner is not 0, 1 or NONE") B V gEx_A (by decide) (by decide) dX7_ifGiven_28 dX7_ifGiven_31 dX7_ifGiven_32 dX7_ifGiven_34 dX7_ifGiven_37 ?_
      exact ⟨1, (show cd_give (vw S 0) r o = ((1 : Nat) : Int) + 1 by unfold cd_give; (repeat' split) <;> omega), rfl, rfl⟩
  · refine gx_throw (cls := "java/lang/IndexOutOfBoundsException") (text := "no such run") B V gEx_I (by decide) (by decide) dX7_ifGiven_11 dX7_ifGiven_14 dX7_ifGiven_15 dX7_ifGiven_17 dX7_ifGiven_20 ?_
    exact ⟨0, (show cd_give (vw S 0) r o = ((0 : Nat) : Int) + 1 by unfold cd_give; (repeat' split) <;> omega), rfl, rfl⟩
set_option maxHeartbeats 4000000 in
theorem c_X7_save {Y : gY} {l : Launch} {S : SS} (hst : l.stackTraces = false) (hw : wf (vw S 0)) (s : Int) (hs : rI s) : gV Y l mX7_save S [.ref (yA Y 72), .int (iI s)] (xO (cd_01 s) (S (4 * 0) 0) (fun S' => vw S' (2 + s.toNat) = vw S 0 ∧ S' (80 + s.toNat) 0 = 1 ∧ ∀ m : Nat, (m < 4 * (2 + s.toNat) ∨ 4 * (2 + s.toNat) + 4 ≤ m) → m ≠ 80 + s.toNat → S' m = S m)) (xE2 (cd_01 s) [eI] (fun S' => S' = S)) := by
  refine gV_of hst (by decide) (Nat.le_of_ble_eq_true rfl) ?_
  intro X hXl B V
  obtain ⟨hs0, hs1⟩ := hs
  obtain ⟨⟨hn0, hn16⟩, ⟨hb0, hb1⟩, ⟨hm0, hm1⟩, ⟨hs0, hs1⟩, ⟨hc0, hc1⟩, hct, hkw, how, hun⟩ := wfS hw
  show gW Y X S 0 [(0, .ref (yA Y 72)), (1, .int (iI s))] []
  refine g_iload_n (q := 1) B dX7_save_0 rfl 1 rfl ?_
  refine g_if_lt (t := 9) (q := 4) B dX7_save_1 (by decide) rfl ⟨by omega, by omega⟩ (fun cq1 => ?_) (fun cq1 => ?_)
  · refine gx_throwW (cls := "java/lang/IndexOutOfBoundsException") (text := "no such save slot") B V gEx_I (by decide) (by decide) dX7_save_9 dX7_save_12 dX7_save_13 dX7_save_16 dX7_save_19 ?_
    exact ⟨0, (show cd_01 s = ((0 : Nat) : Int) + 1 by unfold cd_01; (repeat' split) <;> omega), rfl, rfl⟩
  · refine g_iload_n (q := 5) B dX7_save_4 rfl 1 rfl ?_
    refine g_iconst (q := 6) B dX7_save_5 rfl ?_
    refine g_icmp_le (t := 20) (q := 9) B dX7_save_6 (by decide) rfl ⟨by omega, by omega⟩ ⟨by omega, by omega⟩ (fun cq6 => ?_) (fun cq6 => ?_)
    · refine g_iload_n (q := 21) B dX7_save_20 rfl 1 rfl ?_
      refine g_if_ne (t := 31) (q := 24) B dX7_save_21 (by decide) rfl ⟨by omega, by omega⟩ (fun cq21 => ?_) (fun cq21 => ?_)
      · refine g_aload_n (q := 32) B dX7_save_31 rfl 0 rfl ?_
        refine g_get (n := 72) (ty := tyX7) (q := 35) (v := .ref (yA Y 81)) B dX7_save_32 rfl rfl rfl cls5 6 (by decide) w163 rfl ?_
        refine g_astore_n (q := 36) B dX7_save_35 rfl (by decide) (L' := [(2, .ref (yA Y 81)), (0, .ref (yA Y 72)), (1, .int (iI s))]) rfl ?_
        refine g_aload_n (q := 37) B dX7_save_36 rfl 0 rfl ?_
        refine g_get (n := 81) (ty := tyX5) (q := 40) (v := .ref (yA Y (4 * 3))) B dX7_save_37 rfl rfl rfl cls3 0 (by decide) w150 rfl ?_
        refine g_aload_n (q := 41) B dX7_save_40 rfl 1 rfl ?_
        refine g_get (n := 72) (ty := tyX7) (q := 44) (v := .ref (yA Y (4 * 0))) B dX7_save_41 rfl rfl rfl cls5 1 (by decide) w158 rfl ?_
        refine g_callV (n := (4 * 3)) (ty := tyX2) (q := 47) (As := [.ref (yA Y (4 * 0))]) (st := []) B dX7_save_44 rfl (c_X2_becomeLike (l := xL X) (S := S) (by decide) (by decide) (by decide)) eX2_becomeLike w819 (by decide) rfl (cw_N (by decide) (S ((4 * 3)))) cls2 rfl rfl (Nat.le_of_ble_eq_true rfl) (g_k0 (fun Sy hSy => ?_))
        obtain ⟨hvSy, hfSy⟩ := hSy
        refine g_aload_n (q := 48) B dX7_save_47 rfl 0 rfl ?_
        refine g_iconst (q := 49) B dX7_save_48 rfl ?_
        refine g_put (n := 81) (ty := tyX5) (q := 52) B dX7_save_49 rfl rfl rfl cls3 1 (by decide) w151 rfl (by decide) (by decide) (Nat.le_of_ble_eq_true rfl) ((uq (Sy 81) 0 1)) rfl ?_
        refine g_aload_n (q := 53) B dX7_save_52 rfl 1 rfl ?_
        refine g_get (n := 72) (ty := tyX7) (q := 56) (v := .ref (yA Y (4 * 0))) B dX7_save_53 rfl ((us_ne _ _ (by omega)).trans rfl) rfl cls5 1 (by decide) w158 rfl ?_
        refine g_get (n := (4 * 0)) (ty := tyX2) (q := 59) (v := .int (iI (Sy ((4 * 0)) 0))) B dX7_save_56 rfl ((us_ne _ _ (by omega)).trans rfl) (cw_N (by decide) (Sy ((4 * 0)))) cls2 0 (by decide) w67 rfl ?_
        refine gx_iret B V dX7_save_59 ?_
        have e0 : cd_01 s = 0 := by unfold cd_01; (repeat' split) <;> omega
        have ev : S (4 * 0) 0 = Sy ((4 * 0)) 0 := by exact (congrFun (hfSy 0 (by decide)) 0).symm
        exact ⟨e0, by rw [ev], by rw [show s.toNat = 1 by omega]; exact ⟨hvSy, rfl, fun m h h2 => (us_ne _ _ h2).trans (hfSy m h)⟩⟩
      · refine g_aload_n (q := 25) B dX7_save_24 rfl 0 rfl ?_
        refine g_get (n := 72) (ty := tyX7) (q := 28) (v := .ref (yA Y 80)) B dX7_save_25 rfl rfl rfl cls5 5 (by decide) w162 rfl ?_
        refine g_goto (q := 35) B dX7_save_28 (by decide) ?_
        refine g_astore_n (q := 36) B dX7_save_35 rfl (by decide) (L' := [(2, .ref (yA Y 80)), (0, .ref (yA Y 72)), (1, .int (iI s))]) rfl ?_
        refine g_aload_n (q := 37) B dX7_save_36 rfl 0 rfl ?_
        refine g_get (n := 80) (ty := tyX5) (q := 40) (v := .ref (yA Y (4 * 2))) B dX7_save_37 rfl rfl rfl cls3 0 (by decide) w150 rfl ?_
        refine g_aload_n (q := 41) B dX7_save_40 rfl 1 rfl ?_
        refine g_get (n := 72) (ty := tyX7) (q := 44) (v := .ref (yA Y (4 * 0))) B dX7_save_41 rfl rfl rfl cls5 1 (by decide) w158 rfl ?_
        refine g_callV (n := (4 * 2)) (ty := tyX2) (q := 47) (As := [.ref (yA Y (4 * 0))]) (st := []) B dX7_save_44 rfl (c_X2_becomeLike (l := xL X) (S := S) (by decide) (by decide) (by decide)) eX2_becomeLike w819 (by decide) rfl (cw_N (by decide) (S ((4 * 2)))) cls2 rfl rfl (Nat.le_of_ble_eq_true rfl) (g_k0 (fun Sy hSy => ?_))
        obtain ⟨hvSy, hfSy⟩ := hSy
        refine g_aload_n (q := 48) B dX7_save_47 rfl 0 rfl ?_
        refine g_iconst (q := 49) B dX7_save_48 rfl ?_
        refine g_put (n := 80) (ty := tyX5) (q := 52) B dX7_save_49 rfl rfl rfl cls3 1 (by decide) w151 rfl (by decide) (by decide) (Nat.le_of_ble_eq_true rfl) ((uq (Sy 80) 0 1)) rfl ?_
        refine g_aload_n (q := 53) B dX7_save_52 rfl 1 rfl ?_
        refine g_get (n := 72) (ty := tyX7) (q := 56) (v := .ref (yA Y (4 * 0))) B dX7_save_53 rfl ((us_ne _ _ (by omega)).trans rfl) rfl cls5 1 (by decide) w158 rfl ?_
        refine g_get (n := (4 * 0)) (ty := tyX2) (q := 59) (v := .int (iI (Sy ((4 * 0)) 0))) B dX7_save_56 rfl ((us_ne _ _ (by omega)).trans rfl) (cw_N (by decide) (Sy ((4 * 0)))) cls2 0 (by decide) w67 rfl ?_
        refine gx_iret B V dX7_save_59 ?_
        have e0 : cd_01 s = 0 := by unfold cd_01; (repeat' split) <;> omega
        have ev : S (4 * 0) 0 = Sy ((4 * 0)) 0 := by exact (congrFun (hfSy 0 (by decide)) 0).symm
        exact ⟨e0, by rw [ev], by rw [show s.toNat = 0 by omega]; exact ⟨hvSy, rfl, fun m h h2 => (us_ne _ _ h2).trans (hfSy m h)⟩⟩
    · refine gx_throwW (cls := "java/lang/IndexOutOfBoundsException") (text := "no such save slot") B V gEx_I (by decide) (by decide) dX7_save_9 dX7_save_12 dX7_save_13 dX7_save_16 dX7_save_19 ?_
      exact ⟨0, (show cd_01 s = ((0 : Nat) : Int) + 1 by unfold cd_01; (repeat' split) <;> omega), rfl, rfl⟩
set_option maxHeartbeats 4000000 in
theorem c_X7_restore {Y : gY} {l : Launch} {S : SS} (hst : l.stackTraces = false) (hw : wf (vw S 0)) (hz80 : S 80 0 = 0 ∨ S 80 0 = 1) (hz81 : S 81 0 = 0 ∨ S 81 0 = 1) (s : Int) (hs : rI s) : gV Y l mX7_restore S [.ref (yA Y 72), .int (iI s)] (xO (cd_rest s (S (80 + s.toNat) 0)) (vw S (2 + s.toNat) 0) (fun S' => vw S' 0 = vw S (2 + s.toNat) ∧ (S' 75 0 = S 75 0 ∧ S' 75 1 = 0) ∧ ∀ m : Nat, 4 ≤ m → m ≠ 75 → S' m = S m)) (xE2 (cd_rest s (S (80 + s.toNat) 0)) [eI, eS] (fun S' => S' = S)) := by
  refine gV_of hst (by decide) (Nat.le_of_ble_eq_true rfl) ?_
  intro X hXl B V
  obtain ⟨hs0, hs1⟩ := hs
  show gW Y X S 0 [(0, .ref (yA Y 72)), (1, .int (iI s))] []
  refine g_iload_n (q := 1) B dX7_restore_0 rfl 1 rfl ?_
  refine g_if_lt (t := 9) (q := 4) B dX7_restore_1 (by decide) rfl ⟨by omega, by omega⟩ (fun cq1 => ?_) (fun cq1 => ?_)
  · refine gx_throwW (cls := "java/lang/IndexOutOfBoundsException") (text := "no such save slot") B V gEx_I (by decide) (by decide) dX7_restore_9 dX7_restore_12 dX7_restore_13 dX7_restore_16 dX7_restore_19 ?_
    exact ⟨0, (show cd_rest s (S (80 + s.toNat) 0) = ((0 : Nat) : Int) + 1 by unfold cd_rest; rw [if_neg (by omega)]; rfl), rfl, rfl⟩
  · refine g_iload_n (q := 5) B dX7_restore_4 rfl 1 rfl ?_
    refine g_iconst (q := 6) B dX7_restore_5 rfl ?_
    refine g_icmp_le (t := 20) (q := 9) B dX7_restore_6 (by decide) rfl ⟨by omega, by omega⟩ ⟨by omega, by omega⟩ (fun cq6 => ?_) (fun cq6 => ?_)
    · refine g_iload_n (q := 21) B dX7_restore_20 rfl 1 rfl ?_
      refine g_if_ne (t := 31) (q := 24) B dX7_restore_21 (by decide) rfl ⟨by omega, by omega⟩ (fun cq21 => ?_) (fun cq21 => ?_)
      · refine g_aload_n (q := 32) B dX7_restore_31 rfl 0 rfl ?_
        refine g_get (n := 72) (ty := tyX7) (q := 35) (v := .ref (yA Y 81)) B dX7_restore_32 rfl rfl rfl cls5 6 (by decide) w163 rfl ?_
        refine g_astore_n (q := 36) B dX7_restore_35 rfl (by decide) (L' := [(2, .ref (yA Y 81)), (0, .ref (yA Y 72)), (1, .int (iI s))]) rfl ?_
        refine g_aload_n (q := 37) B dX7_restore_36 rfl 0 rfl ?_
        refine g_get (n := 81) (ty := tyX5) (q := 40) (v := .int (iI (S 81 0))) B dX7_restore_37 rfl rfl rfl cls3 1 (by decide) w151 rfl ?_
        refine g_if_ne (t := 54) (q := 43) B dX7_restore_40 (by decide) rfl ⟨by omega, by omega⟩ (fun cq40 => ?_) (fun cq40 => ?_)
        · refine g_aload_n (q := 55) B dX7_restore_54 rfl 1 rfl ?_
          refine g_get (n := 72) (ty := tyX7) (q := 58) (v := .ref (yA Y (4 * 0))) B dX7_restore_55 rfl rfl rfl cls5 1 (by decide) w158 rfl ?_
          refine g_aload_n (q := 59) B dX7_restore_58 rfl 0 rfl ?_
          refine g_get (n := 81) (ty := tyX5) (q := 62) (v := .ref (yA Y (4 * 3))) B dX7_restore_59 rfl rfl rfl cls3 0 (by decide) w150 rfl ?_
          refine g_callV (n := (4 * 0)) (ty := tyX2) (q := 65) (As := [.ref (yA Y (4 * 3))]) (st := []) B dX7_restore_62 rfl (c_X2_becomeLike (l := xL X) (S := S) (by decide) (by decide) (by decide)) eX2_becomeLike w819 (by decide) rfl (cw_N (by decide) (S ((4 * 0)))) cls2 rfl rfl (Nat.le_of_ble_eq_true rfl) (g_k0 (fun Sy hSy => ?_))
          obtain ⟨hvSy, hfSy⟩ := hSy
          refine g_aload_n (q := 66) B dX7_restore_65 rfl 1 rfl ?_
          refine g_get (n := 72) (ty := tyX7) (q := 69) (v := .ref (yA Y 75)) B dX7_restore_66 rfl rfl rfl cls5 3 (by decide) w160 rfl ?_
          refine g_callV (n := 75) (ty := tyX1) (q := 72) (As := []) (st := []) B dX7_restore_69 rfl (c_X1_forgetAll (l := xL X) (S := Sy)) eX1_forgetAll w369 (by decide) rfl rfl cls1 rfl rfl (Nat.le_of_ble_eq_true rfl) (g_0E ?_)
          refine g_aload_n (q := 73) B dX7_restore_72 rfl 1 rfl ?_
          refine g_get (n := 72) (ty := tyX7) (q := 76) (v := .ref (yA Y (4 * 0))) B dX7_restore_73 rfl ((us_ne _ _ (by omega)).trans rfl) rfl cls5 1 (by decide) w158 rfl ?_
          refine g_get (n := (4 * 0)) (ty := tyX2) (q := 79) (v := .int (iI (Sy ((4 * 0)) 0))) B dX7_restore_76 rfl ((us_ne _ _ (by omega)).trans rfl) (cw_N (by decide) (Sy ((4 * 0)))) cls2 0 (by decide) w67 rfl ?_
          refine gx_iret B V dX7_restore_79 ?_
          have es : s = 1 := by omega
          subst es
          have e0 : cd_rest 1 (S (80 + (1 : Int).toNat) 0) = 0 := by unfold cd_rest; rw [if_pos (by decide), if_neg (show ¬ S (80 + Int.toNat 1) 0 = 0 from cq40)]
          exact ⟨e0, congrArg (fun z => some (Value.int (iI z))) (congrFun hvSy 0), hvSy, ⟨congrFun (hfSy 75 (by decide)) 0, rfl⟩, fun m h4 h5 => (us_ne _ _ h5).trans (hfSy m (by omega))⟩
        · refine gx_throwW (cls := "java/lang/IllegalStateException") (text := "nothing has been saved in this slot") B V gEx_S (by decide) (by decide) dX7_restore_43 dX7_restore_46 dX7_restore_47 dX7_restore_50 dX7_restore_53 ?_
          have es : s = 1 := by omega
          subst es
          exact ⟨1, (show cd_rest 1 (S (80 + (1 : Int).toNat) 0) = ((1 : Nat) : Int) + 1 by unfold cd_rest; rw [if_pos (by decide), if_pos (show S (80 + Int.toNat 1) 0 = 0 from cq40)]; rfl), rfl, rfl⟩
      · refine g_aload_n (q := 25) B dX7_restore_24 rfl 0 rfl ?_
        refine g_get (n := 72) (ty := tyX7) (q := 28) (v := .ref (yA Y 80)) B dX7_restore_25 rfl rfl rfl cls5 5 (by decide) w162 rfl ?_
        refine g_goto (q := 35) B dX7_restore_28 (by decide) ?_
        refine g_astore_n (q := 36) B dX7_restore_35 rfl (by decide) (L' := [(2, .ref (yA Y 80)), (0, .ref (yA Y 72)), (1, .int (iI s))]) rfl ?_
        refine g_aload_n (q := 37) B dX7_restore_36 rfl 0 rfl ?_
        refine g_get (n := 80) (ty := tyX5) (q := 40) (v := .int (iI (S 80 0))) B dX7_restore_37 rfl rfl rfl cls3 1 (by decide) w151 rfl ?_
        refine g_if_ne (t := 54) (q := 43) B dX7_restore_40 (by decide) rfl ⟨by omega, by omega⟩ (fun cq40 => ?_) (fun cq40 => ?_)
        · refine g_aload_n (q := 55) B dX7_restore_54 rfl 1 rfl ?_
          refine g_get (n := 72) (ty := tyX7) (q := 58) (v := .ref (yA Y (4 * 0))) B dX7_restore_55 rfl rfl rfl cls5 1 (by decide) w158 rfl ?_
          refine g_aload_n (q := 59) B dX7_restore_58 rfl 0 rfl ?_
          refine g_get (n := 80) (ty := tyX5) (q := 62) (v := .ref (yA Y (4 * 2))) B dX7_restore_59 rfl rfl rfl cls3 0 (by decide) w150 rfl ?_
          refine g_callV (n := (4 * 0)) (ty := tyX2) (q := 65) (As := [.ref (yA Y (4 * 2))]) (st := []) B dX7_restore_62 rfl (c_X2_becomeLike (l := xL X) (S := S) (by decide) (by decide) (by decide)) eX2_becomeLike w819 (by decide) rfl (cw_N (by decide) (S ((4 * 0)))) cls2 rfl rfl (Nat.le_of_ble_eq_true rfl) (g_k0 (fun Sy hSy => ?_))
          obtain ⟨hvSy, hfSy⟩ := hSy
          refine g_aload_n (q := 66) B dX7_restore_65 rfl 1 rfl ?_
          refine g_get (n := 72) (ty := tyX7) (q := 69) (v := .ref (yA Y 75)) B dX7_restore_66 rfl rfl rfl cls5 3 (by decide) w160 rfl ?_
          refine g_callV (n := 75) (ty := tyX1) (q := 72) (As := []) (st := []) B dX7_restore_69 rfl (c_X1_forgetAll (l := xL X) (S := Sy)) eX1_forgetAll w369 (by decide) rfl rfl cls1 rfl rfl (Nat.le_of_ble_eq_true rfl) (g_0E ?_)
          refine g_aload_n (q := 73) B dX7_restore_72 rfl 1 rfl ?_
          refine g_get (n := 72) (ty := tyX7) (q := 76) (v := .ref (yA Y (4 * 0))) B dX7_restore_73 rfl ((us_ne _ _ (by omega)).trans rfl) rfl cls5 1 (by decide) w158 rfl ?_
          refine g_get (n := (4 * 0)) (ty := tyX2) (q := 79) (v := .int (iI (Sy ((4 * 0)) 0))) B dX7_restore_76 rfl ((us_ne _ _ (by omega)).trans rfl) (cw_N (by decide) (Sy ((4 * 0)))) cls2 0 (by decide) w67 rfl ?_
          refine gx_iret B V dX7_restore_79 ?_
          have es : s = 0 := by omega
          subst es
          have e0 : cd_rest 0 (S (80 + (0 : Int).toNat) 0) = 0 := by unfold cd_rest; rw [if_pos (by decide), if_neg (show ¬ S (80 + Int.toNat 0) 0 = 0 from cq40)]
          exact ⟨e0, congrArg (fun z => some (Value.int (iI z))) (congrFun hvSy 0), hvSy, ⟨congrFun (hfSy 75 (by decide)) 0, rfl⟩, fun m h4 h5 => (us_ne _ _ h5).trans (hfSy m (by omega))⟩
        · refine gx_throwW (cls := "java/lang/IllegalStateException") (text := "nothing has been saved in this slot") B V gEx_S (by decide) (by decide) dX7_restore_43 dX7_restore_46 dX7_restore_47 dX7_restore_50 dX7_restore_53 ?_
          have es : s = 0 := by omega
          subst es
          exact ⟨1, (show cd_rest 0 (S (80 + (0 : Int).toNat) 0) = ((1 : Nat) : Int) + 1 by unfold cd_rest; rw [if_pos (by decide), if_pos (show S (80 + Int.toNat 0) 0 = 0 from cq40)]; rfl), rfl, rfl⟩
    · refine gx_throwW (cls := "java/lang/IndexOutOfBoundsException") (text := "no such save slot") B V gEx_I (by decide) (by decide) dX7_restore_9 dX7_restore_12 dX7_restore_13 dX7_restore_16 dX7_restore_19 ?_
      exact ⟨0, (show cd_rest s (S (80 + s.toNat) 0) = ((0 : Nat) : Int) + 1 by unfold cd_rest; rw [if_neg (by omega)]; rfl), rfl, rfl⟩
