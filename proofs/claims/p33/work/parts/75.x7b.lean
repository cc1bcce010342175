set_option maxHeartbeats 4000000 in
theorem c_X7_jewel {Y : gY} {l : Launch} {S : SS} (hst : l.stackTraces = false) (hw : wf (vw S 0)) (hnx : 0 ≤ S 75 0 ∧ S 75 0 < 14) (hct : 0 ≤ S 75 1 ∧ S 75 1 ≤ 14) (k : Int) (hk : rI k) (u : Int) (hu : rI u) : gV Y l mX7_jewel S [.ref (yA Y 72), .int (iI k), .int (iI u)] (xO (cd_jewel (vw S 0) k u) (S (4 * 0) 0) (fun S' => chP S S' (addG (vw S 0) k u))) (xE2 (cd_jewel (vw S 0) k u) [eI, eA, eS] (fun S' => S' = S)) := by
  refine gV_of hst (by decide) (Nat.le_of_ble_eq_true rfl) ?_
  intro X hXl B V
  obtain ⟨hk0, hk1⟩ := hk
  obtain ⟨hu0, hu1⟩ := hu
  obtain ⟨⟨hn0, hn16⟩, ⟨hb0, hb1⟩, ⟨hm0, hm1⟩, ⟨hs0, hs1⟩, ⟨hc0, hc1⟩, hctb, hkw, how, hun⟩ := wfS hw
  have m0 : vw S 0 0 = S (4 * 0) 0 := rfl
  have hrr := runsF_in (vw S 0)
  show gW Y X S 0 [(0, .ref (yA Y 72)), (1, .int (iI k)), (2, .int (iI u))] []
  refine g_iload_n (q := 1) B dX7_jewel_0 rfl 1 rfl ?_
  refine g_callS (q := 4) (As := [.int (iI k)]) (st := []) B dX7_jewel_1 rfl (c_X7_isKind (l := xL X) (S := S) k ⟨by omega, by omega⟩) eX7_isKind w616 (by decide) rfl rfl (Nat.le_of_ble_eq_true rfl) (g_kE ?_)
  refine g_ifb_ne (t := 17) (q := 7) B dX7_jewel_4 (by decide) rfl (fun cq4 => ?_) (fun cq4 => ?_)
  · refine g_iload_n (q := 18) B dX7_jewel_17 rfl 2 rfl ?_
    refine g_callS (q := 21) (As := [.int (iI u)]) (st := []) B dX7_jewel_18 rfl (c_X7_isWeight (l := xL X) (S := S) u ⟨by omega, by omega⟩) eX7_isWeight w627 (by decide) rfl rfl (Nat.le_of_ble_eq_true rfl) (g_kE ?_)
    refine g_ifb_ne (t := 34) (q := 24) B dX7_jewel_21 (by decide) rfl (fun cq21 => ?_) (fun cq21 => ?_)
    · refine g_aload_n (q := 35) B dX7_jewel_34 rfl 0 rfl ?_
      refine g_get (n := 72) (ty := tyX7) (q := 38) (v := .ref (yA Y (4 * 0))) B dX7_jewel_35 rfl rfl rfl cls5 1 (by decide) w158 rfl ?_
      refine g_get (n := (4 * 0)) (ty := tyX2) (q := 41) (v := .int (iI (S ((4 * 0)) 0))) B dX7_jewel_38 rfl rfl (cw_N (by decide) (S ((4 * 0)))) cls2 0 (by decide) w67 rfl ?_
      refine g_bipush (q := 43) B dX7_jewel_41 rfl (by decide) ?_
      refine g_icmp_lt (t := 56) (q := 46) B dX7_jewel_43 (by decide) rfl ⟨by omega, by omega⟩ ⟨by omega, by omega⟩ (fun cq43 => ?_) (fun cq43 => ?_)
      · refine g_aload_n (q := 57) B dX7_jewel_56 rfl 0 rfl ?_
        refine g_get (n := 72) (ty := tyX7) (q := 60) (v := .ref (yA Y 75)) B dX7_jewel_57 rfl rfl rfl cls5 3 (by decide) w160 rfl ?_
        refine g_aload_n (q := 61) B dX7_jewel_60 rfl 0 rfl ?_
        refine g_get (n := 72) (ty := tyX7) (q := 64) (v := .ref (yA Y (4 * 0))) B dX7_jewel_61 rfl rfl rfl cls5 1 (by decide) w158 rfl ?_
        refine g_callV (n := 75) (ty := tyX1) (q := 67) (As := [.ref (yA Y (4 * 0))]) (st := []) B dX7_jewel_64 rfl (c_X1_remember (l := xL X) (S := S) hnx hct) eX1_remember w630 (by decide) rfl rfl cls1 rfl rfl (Nat.le_of_ble_eq_true rfl) (g_k0 (fun Sy hSy => ?_))
        obtain ⟨hrSy, ⟨hnSy, hkSy⟩, hfSy⟩ := hSy
        have hvY := rm_vw hfSy
        have hwY : wf (vw Sy 0) := by rw [hvY]; exact hw
        have e00 : Sy (4 * 0) 0 = S (4 * 0) 0 := congrFun hvY 0
        have eY2 : Sy (4 * 0) 2 = S (4 * 0) 2 := congrFun hvY 2
        refine g_aload_n (q := 68) B dX7_jewel_67 rfl 0 rfl ?_
        refine g_get (n := 72) (ty := tyX7) (q := 71) (v := .ref (yA Y (4 * 0))) B dX7_jewel_68 rfl rfl rfl cls5 1 (by decide) w158 rfl ?_
        refine g_iload_n (q := 72) B dX7_jewel_71 rfl 1 rfl ?_
        refine g_iload_n (q := 73) B dX7_jewel_72 rfl 2 rfl ?_
        refine g_callV (n := (4 * 0)) (ty := tyX2) (q := 76) (As := [.int (iI k), .int (iI u)]) (st := []) B dX7_jewel_73 rfl (c_X2_addJewel (l := xL X) (S := Sy) (by decide) hwY k u ⟨by omega, by omega⟩ ⟨by omega, by omega⟩) eX2_addJewel w641 (by decide) rfl (cw_N (by decide) (Sy ((4 * 0)))) cls2 rfl rfl (Nat.le_of_ble_eq_true rfl) (g_kV (fun Sz hSz => ?_))
        obtain ⟨hvSz, hfSz⟩ := hSz
        have ez0 : Sz (4 * 0) 0 = S (4 * 0) 0 + 1 := by
          have e := congrFun hvSz 0
          rw [hvY, addG, if_pos ⟨by omega, by omega, by rw [m0]; omega⟩] at e
          exact e
        refine g_pop (q := 77) B dX7_jewel_76 rfl rfl ?_
        refine g_aload_n (q := 78) B dX7_jewel_77 rfl 0 rfl ?_
        refine g_get (n := 72) (ty := tyX7) (q := 81) (v := .ref (yA Y (4 * 0))) B dX7_jewel_78 rfl rfl rfl cls5 1 (by decide) w158 rfl ?_
        refine g_get (n := (4 * 0)) (ty := tyX2) (q := 84) (v := .int (iI (Sz ((4 * 0)) 0))) B dX7_jewel_81 rfl rfl (cw_N (by decide) (Sz ((4 * 0)))) cls2 0 (by decide) w67 rfl ?_
        refine g_iconst (q := 85) B dX7_jewel_84 rfl ?_
        refine g_isub (q := 86) B dX7_jewel_85 rfl ?_
        refine gx_iret B V dX7_jewel_86 ?_
        have e0 : cd_jewel (vw S 0) k u = 0 := by unfold cd_jewel; (repeat' split) <;> omega
        have ev : S (4 * 0) 0 = (Sz ((4 * 0)) 0) - 1 := by omega
        exact ⟨e0, by rw [ev], chP_fr hnx hrSy hnSy hkSy hfSy (by rw [hvSz, hvY]) hfSz⟩
      · refine gx_throw (cls := "java/lang/IllegalStateException") (text := "there are 16 jewels") B V gEx_S (by decide) (by decide) dX7_jewel_46 dX7_jewel_49 dX7_jewel_50 dX7_jewel_52 dX7_jewel_55 ?_
        exact ⟨2, (show cd_jewel (vw S 0) k u = ((2 : Nat) : Int) + 1 by unfold cd_jewel; (repeat' split) <;> omega), rfl, rfl⟩
    · refine gx_throw (cls := "java/lang/IllegalArgumentException") (text := "weight is not 1 to 9") B V gEx_A (by decide) (by decide) dX7_jewel_24 dX7_jewel_27 dX7_jewel_28 dX7_jewel_30 dX7_jewel_33 ?_
      exact ⟨1, (show cd_jewel (vw S 0) k u = ((1 : Nat) : Int) + 1 by unfold cd_jewel; (repeat' split) <;> omega), rfl, rfl⟩
  · refine gx_throw (cls := "java/lang/IndexOutOfBoundsException") (text := "no such kind") B V gEx_I (by decide) (by decide) dX7_jewel_7 dX7_jewel_10 dX7_jewel_11 dX7_jewel_13 dX7_jewel_16 ?_
    exact ⟨0, (show cd_jewel (vw S 0) k u = ((0 : Nat) : Int) + 1 by unfold cd_jewel; (repeat' split) <;> omega), rfl, rfl⟩
set_option maxHeartbeats 4000000 in
theorem c_X7_exchange {Y : gY} {l : Launch} {S : SS} (hst : l.stackTraces = false) (hw : wf (vw S 0)) (hnx : 0 ≤ S 75 0 ∧ S 75 0 < 14) (hct : 0 ≤ S 75 1 ∧ S 75 1 ≤ 14) (i : Int) (hi : rI i) (j : Int) (hj : rI j) : gV Y l mX7_exchange S [.ref (yA Y 72), .int (iI i), .int (iI j)] (xO (cd_exchange (vw S 0) i j) (gapF (swapG (vw S 0) i j)) (fun S' => chP S S' (swapG (vw S 0) i j))) (xE2 (cd_exchange (vw S 0) i j) [eI] (fun S' => S' = S)) := by
  refine gV_of hst (by decide) (Nat.le_of_ble_eq_true rfl) ?_
  intro X hXl B V
  obtain ⟨hi0, hi1⟩ := hi
  obtain ⟨hj0, hj1⟩ := hj
  obtain ⟨⟨hn0, hn16⟩, ⟨hb0, hb1⟩, ⟨hm0, hm1⟩, ⟨hs0, hs1⟩, ⟨hc0, hc1⟩, hctb, hkw, how, hun⟩ := wfS hw
  have m0 : vw S 0 0 = S (4 * 0) 0 := rfl
  have hrr := runsF_in (vw S 0)
  show gW Y X S 0 [(0, .ref (yA Y 72)), (1, .int (iI i)), (2, .int (iI j))] []
  refine g_aload_n (q := 1) B dX7_exchange_0 rfl 0 rfl ?_
  refine g_get (n := 72) (ty := tyX7) (q := 4) (v := .ref (yA Y (4 * 0))) B dX7_exchange_1 rfl rfl rfl cls5 1 (by decide) w158 rfl ?_
  refine g_iload_n (q := 5) B dX7_exchange_4 rfl 1 rfl ?_
  refine g_callV (n := (4 * 0)) (ty := tyX2) (q := 8) (As := [.int (iI i)]) (st := []) B dX7_exchange_5 rfl (c_X2_hasJewel (l := xL X) (S := S) (by decide) hw i ⟨by omega, by omega⟩) eX2_hasJewel w549 (by decide) rfl (cw_N (by decide) (S ((4 * 0)))) cls2 rfl rfl (Nat.le_of_ble_eq_true rfl) (g_kE ?_)
  refine g_ifb_eq (t := 22) (q := 11) B dX7_exchange_8 (by decide) rfl (fun cq8 => ?_) (fun cq8 => ?_)
  · refine gx_throw (cls := "java/lang/IndexOutOfBoundsException") (text := "no such jewel") B V gEx_I (by decide) (by decide) dX7_exchange_22 dX7_exchange_25 dX7_exchange_26 dX7_exchange_28 dX7_exchange_31 ?_
    exact ⟨0, (show cd_exchange (vw S 0) i j = ((0 : Nat) : Int) + 1 by unfold cd_exchange; (repeat' split) <;> omega), rfl, rfl⟩
  · refine g_aload_n (q := 12) B dX7_exchange_11 rfl 0 rfl ?_
    refine g_get (n := 72) (ty := tyX7) (q := 15) (v := .ref (yA Y (4 * 0))) B dX7_exchange_12 rfl rfl rfl cls5 1 (by decide) w158 rfl ?_
    refine g_iload_n (q := 16) B dX7_exchange_15 rfl 2 rfl ?_
    refine g_callV (n := (4 * 0)) (ty := tyX2) (q := 19) (As := [.int (iI j)]) (st := []) B dX7_exchange_16 rfl (c_X2_hasJewel (l := xL X) (S := S) (by decide) hw j ⟨by omega, by omega⟩) eX2_hasJewel w549 (by decide) rfl (cw_N (by decide) (S ((4 * 0)))) cls2 rfl rfl (Nat.le_of_ble_eq_true rfl) (g_kE ?_)
    refine g_ifb_ne (t := 32) (q := 22) B dX7_exchange_19 (by decide) rfl (fun cq19 => ?_) (fun cq19 => ?_)
    · refine g_aload_n (q := 33) B dX7_exchange_32 rfl 0 rfl ?_
      refine g_get (n := 72) (ty := tyX7) (q := 36) (v := .ref (yA Y 75)) B dX7_exchange_33 rfl rfl rfl cls5 3 (by decide) w160 rfl ?_
      refine g_aload_n (q := 37) B dX7_exchange_36 rfl 0 rfl ?_
      refine g_get (n := 72) (ty := tyX7) (q := 40) (v := .ref (yA Y (4 * 0))) B dX7_exchange_37 rfl rfl rfl cls5 1 (by decide) w158 rfl ?_
      refine g_callV (n := 75) (ty := tyX1) (q := 43) (As := [.ref (yA Y (4 * 0))]) (st := []) B dX7_exchange_40 rfl (c_X1_remember (l := xL X) (S := S) hnx hct) eX1_remember w630 (by decide) rfl rfl cls1 rfl rfl (Nat.le_of_ble_eq_true rfl) (g_k0 (fun Sy hSy => ?_))
      obtain ⟨hrSy, ⟨hnSy, hkSy⟩, hfSy⟩ := hSy
      have hvY := rm_vw hfSy
      have hwY : wf (vw Sy 0) := by rw [hvY]; exact hw
      have e00 : Sy (4 * 0) 0 = S (4 * 0) 0 := congrFun hvY 0
      have eY2 : Sy (4 * 0) 2 = S (4 * 0) 2 := congrFun hvY 2
      refine g_aload_n (q := 44) B dX7_exchange_43 rfl 0 rfl ?_
      refine g_get (n := 72) (ty := tyX7) (q := 47) (v := .ref (yA Y (4 * 0))) B dX7_exchange_44 rfl rfl rfl cls5 1 (by decide) w158 rfl ?_
      refine g_iload_n (q := 48) B dX7_exchange_47 rfl 1 rfl ?_
      refine g_iload_n (q := 49) B dX7_exchange_48 rfl 2 rfl ?_
      refine g_callV (n := (4 * 0)) (ty := tyX2) (q := 52) (As := [.int (iI i), .int (iI j)]) (st := []) B dX7_exchange_49 rfl (c_X2_swapJewels (l := xL X) (S := Sy) (by decide) hwY i j ⟨by omega, by omega⟩ ⟨by omega, by omega⟩) eX2_swapJewels w649 (by decide) rfl (cw_N (by decide) (Sy ((4 * 0)))) cls2 rfl rfl (Nat.le_of_ble_eq_true rfl) (g_kV (fun Sz hSz => ?_))
      obtain ⟨hvSz, hfSz⟩ := hSz
      have hwZ : wf (vw Sz 0) := by rw [hvSz]; exact wf_swapG hwY _ _
      refine g_pop (q := 53) B dX7_exchange_52 rfl rfl ?_
      refine g_aload_n (q := 54) B dX7_exchange_53 rfl 0 rfl ?_
      refine g_get (n := 72) (ty := tyX7) (q := 57) (v := .ref (yA Y (4 * 0))) B dX7_exchange_54 rfl rfl rfl cls5 1 (by decide) w158 rfl ?_
      refine g_callV (n := (4 * 0)) (ty := tyX2) (q := 60) (As := []) (st := []) B dX7_exchange_57 rfl (c_X2_gap (l := xL X) (S := Sz) (by decide) hwZ) eX2_gap w511 (by decide) rfl (cw_N (by decide) (Sz ((4 * 0)))) cls2 rfl rfl (Nat.le_of_ble_eq_true rfl) (g_kE ?_)
      have := gapF_in hwZ
      refine gx_iret B V dX7_exchange_60 ?_
      have e0 : cd_exchange (vw S 0) i j = 0 := by unfold cd_exchange; (repeat' split) <;> omega
      have ev : gapF (swapG (vw S 0) i j) = gapF (vw Sz 0) := by rw [hvSz, hvY]
      exact ⟨e0, by rw [ev], chP_fr hnx hrSy hnSy hkSy hfSy (by rw [hvSz, hvY]) hfSz⟩
    · refine gx_throw (cls := "java/lang/IndexOutOfBoundsException") (text := "no such jewel") B V gEx_I (by decide) (by decide) dX7_exchange_22 dX7_exchange_25 dX7_exchange_26 dX7_exchange_28 dX7_exchange_31 ?_
      exact ⟨0, (show cd_exchange (vw S 0) i j = ((0 : Nat) : Int) + 1 by unfold cd_exchange; (repeat' split) <;> omega), rfl, rfl⟩
set_option maxHeartbeats 4000000 in
theorem c_X7_breakAt {Y : gY} {l : Launch} {S : SS} (hst : l.stackTraces = false) (hw : wf (vw S 0)) (hnx : 0 ≤ S 75 0 ∧ S 75 0 < 14) (hct : 0 ≤ S 75 1 ∧ S 75 1 ≤ 14) (j : Int) (hj : rI j) : gV Y l mX7_breakAt S [.ref (yA Y 72), .int (iI j)] (xO (cd_breakAt (vw S 0) j) (S (4 * 0) 1) (fun S' => chP S S' (brkG (vw S 0) j))) (xE2 (cd_breakAt (vw S 0) j) [eI] (fun S' => S' = S)) := by
  refine gV_of hst (by decide) (Nat.le_of_ble_eq_true rfl) ?_
  intro X hXl B V
  obtain ⟨hj0, hj1⟩ := hj
  obtain ⟨⟨hn0, hn16⟩, ⟨hb0, hb1⟩, ⟨hm0, hm1⟩, ⟨hs0, hs1⟩, ⟨hc0, hc1⟩, hctb, hkw, how, hun⟩ := wfS hw
  have m0 : vw S 0 0 = S (4 * 0) 0 := rfl
  have hrr := runsF_in (vw S 0)
  show gW Y X S 0 [(0, .ref (yA Y 72)), (1, .int (iI j))] []
  refine g_aload_n (q := 1) B dX7_breakAt_0 rfl 0 rfl ?_
  refine g_get (n := 72) (ty := tyX7) (q := 4) (v := .ref (yA Y (4 * 0))) B dX7_breakAt_1 rfl rfl rfl cls5 1 (by decide) w158 rfl ?_
  refine g_iload_n (q := 5) B dX7_breakAt_4 rfl 1 rfl ?_
  refine g_callV (n := (4 * 0)) (ty := tyX2) (q := 8) (As := [.int (iI j)]) (st := []) B dX7_breakAt_5 rfl (c_X2_hasJewel (l := xL X) (S := S) (by decide) hw j ⟨by omega, by omega⟩) eX2_hasJewel w549 (by decide) rfl (cw_N (by decide) (S ((4 * 0)))) cls2 rfl rfl (Nat.le_of_ble_eq_true rfl) (g_kE ?_)
  refine g_ifb_ne (t := 21) (q := 11) B dX7_breakAt_8 (by decide) rfl (fun cq8 => ?_) (fun cq8 => ?_)
  · refine g_aload_n (q := 22) B dX7_breakAt_21 rfl 0 rfl ?_
    refine g_get (n := 72) (ty := tyX7) (q := 25) (v := .ref (yA Y 75)) B dX7_breakAt_22 rfl rfl rfl cls5 3 (by decide) w160 rfl ?_
    refine g_aload_n (q := 26) B dX7_breakAt_25 rfl 0 rfl ?_
    refine g_get (n := 72) (ty := tyX7) (q := 29) (v := .ref (yA Y (4 * 0))) B dX7_breakAt_26 rfl rfl rfl cls5 1 (by decide) w158 rfl ?_
    refine g_callV (n := 75) (ty := tyX1) (q := 32) (As := [.ref (yA Y (4 * 0))]) (st := []) B dX7_breakAt_29 rfl (c_X1_remember (l := xL X) (S := S) hnx hct) eX1_remember w630 (by decide) rfl rfl cls1 rfl rfl (Nat.le_of_ble_eq_true rfl) (g_k0 (fun Sy hSy => ?_))
    obtain ⟨hrSy, ⟨hnSy, hkSy⟩, hfSy⟩ := hSy
    have hvY := rm_vw hfSy
    have hwY : wf (vw Sy 0) := by rw [hvY]; exact hw
    have e00 : Sy (4 * 0) 0 = S (4 * 0) 0 := congrFun hvY 0
    have eY2 : Sy (4 * 0) 2 = S (4 * 0) 2 := congrFun hvY 2
    refine g_aload_n (q := 33) B dX7_breakAt_32 rfl 0 rfl ?_
    refine g_get (n := 72) (ty := tyX7) (q := 36) (v := .ref (yA Y (4 * 0))) B dX7_breakAt_33 rfl rfl rfl cls5 1 (by decide) w158 rfl ?_
    refine g_get (n := (4 * 0)) (ty := tyX2) (q := 39) (v := .int (iI (Sy ((4 * 0)) 1))) B dX7_breakAt_36 rfl rfl (cw_N (by decide) (Sy ((4 * 0)))) cls2 1 (by decide) w70 rfl ?_
    refine g_istore_n (q := 40) B dX7_breakAt_39 rfl (by decide) (L' := [(2, .int (iI (Sy ((4 * 0)) 1))), (0, .ref (yA Y 72)), (1, .int (iI j))]) rfl ?_
    refine g_aload_n (q := 41) B dX7_breakAt_40 rfl 1 rfl ?_
    refine g_get (n := 72) (ty := tyX7) (q := 44) (v := .ref (yA Y (4 * 0))) B dX7_breakAt_41 rfl rfl rfl cls5 1 (by decide) w158 rfl ?_
    refine g_iload_n (q := 45) B dX7_breakAt_44 rfl 2 rfl ?_
    refine g_callV (n := (4 * 0)) (ty := tyX2) (q := 48) (As := [.int (iI j)]) (st := []) B dX7_breakAt_45 rfl (c_X2_breakAhead (l := xL X) (S := Sy) (by decide) hwY j ⟨by omega, by omega⟩) eX2_breakAhead w657 (by decide) rfl (cw_N (by decide) (Sy ((4 * 0)))) cls2 rfl rfl (Nat.le_of_ble_eq_true rfl) (g_kV (fun Sz hSz => ?_))
    obtain ⟨hvSz, hfSz⟩ := hSz
    refine g_pop (q := 49) B dX7_breakAt_48 rfl rfl ?_
    refine g_iload_n (q := 50) B dX7_breakAt_49 rfl 0 rfl ?_
    refine gx_iret B V dX7_breakAt_50 ?_
    have e0 : cd_breakAt (vw S 0) j = 0 := by unfold cd_breakAt; (repeat' split) <;> omega
    have ev : S (4 * 0) 1 = Sy ((4 * 0)) 1 := by exact (congrFun hvY 1).symm
    exact ⟨e0, by rw [ev], chP_fr hnx hrSy hnSy hkSy hfSy (by rw [hvSz, hvY]) hfSz⟩
  · refine gx_throw (cls := "java/lang/IndexOutOfBoundsException") (text := "no such jewel") B V gEx_I (by decide) (by decide) dX7_breakAt_11 dX7_breakAt_14 dX7_breakAt_15 dX7_breakAt_17 dX7_breakAt_20 ?_
    exact ⟨0, (show cd_breakAt (vw S 0) j = ((0 : Nat) : Int) + 1 by unfold cd_breakAt; (repeat' split) <;> omega), rfl, rfl⟩
set_option maxHeartbeats 4000000 in
theorem c_X7_cut {Y : gY} {l : Launch} {S : SS} (hst : l.stackTraces = false) (hw : wf (vw S 0)) (hnx : 0 ≤ S 75 0 ∧ S 75 0 < 14) (hct : 0 ≤ S 75 1 ∧ S 75 1 ≤ 14) (b : Int) (hb : b = 0 ∨ b = 1) (p : Int) (hp : rI p) : gV Y l mX7_cut S [.ref (yA Y 72), .int (iI p), .int (iI b)] (xO (cd_cut (vw S 0) p) (runsF (cutG (vw S 0) p b)) (fun S' => chP S S' (cutG (vw S 0) p b))) (xE2 (cd_cut (vw S 0) p) [eI] (fun S' => S' = S)) := by
  refine gV_of hst (by decide) (Nat.le_of_ble_eq_true rfl) ?_
  intro X hXl B V
  obtain ⟨hp0, hp1⟩ := hp
  obtain ⟨⟨hn0, hn16⟩, ⟨hb0, hb1⟩, ⟨hm0, hm1⟩, ⟨hs0, hs1⟩, ⟨hc0, hc1⟩, hctb, hkw, how, hun⟩ := wfS hw
  have m0 : vw S 0 0 = S (4 * 0) 0 := rfl
  have hrr := runsF_in (vw S 0)
  show gW Y X S 0 [(0, .ref (yA Y 72)), (1, .int (iI p)), (2, .int (iI b))] []
  refine g_aload_n (q := 1) B dX7_cut_0 rfl 0 rfl ?_
  refine g_get (n := 72) (ty := tyX7) (q := 4) (v := .ref (yA Y (4 * 0))) B dX7_cut_1 rfl rfl rfl cls5 1 (by decide) w158 rfl ?_
  refine g_iload_n (q := 5) B dX7_cut_4 rfl 1 rfl ?_
  refine g_callV (n := (4 * 0)) (ty := tyX2) (q := 8) (As := [.int (iI p)]) (st := []) B dX7_cut_5 rfl (c_X2_canBeCutAt (l := xL X) (S := S) (by decide) hw p ⟨by omega, by omega⟩) eX2_canBeCutAt w851 (by decide) rfl (cw_N (by decide) (S ((4 * 0)))) cls2 rfl rfl (Nat.le_of_ble_eq_true rfl) (g_kE ?_)
  refine g_ifb_ne (t := 21) (q := 11) B dX7_cut_8 (by decide) rfl (fun cq8 => ?_) (fun cq8 => ?_)
  · refine g_aload_n (q := 22) B dX7_cut_21 rfl 0 rfl ?_
    refine g_get (n := 72) (ty := tyX7) (q := 25) (v := .ref (yA Y 75)) B dX7_cut_22 rfl rfl rfl cls5 3 (by decide) w160 rfl ?_
    refine g_aload_n (q := 26) B dX7_cut_25 rfl 0 rfl ?_
    refine g_get (n := 72) (ty := tyX7) (q := 29) (v := .ref (yA Y (4 * 0))) B dX7_cut_26 rfl rfl rfl cls5 1 (by decide) w158 rfl ?_
    refine g_callV (n := 75) (ty := tyX1) (q := 32) (As := [.ref (yA Y (4 * 0))]) (st := []) B dX7_cut_29 rfl (c_X1_remember (l := xL X) (S := S) hnx hct) eX1_remember w630 (by decide) rfl rfl cls1 rfl rfl (Nat.le_of_ble_eq_true rfl) (g_k0 (fun Sy hSy => ?_))
    obtain ⟨hrSy, ⟨hnSy, hkSy⟩, hfSy⟩ := hSy
    have hvY := rm_vw hfSy
    have hwY : wf (vw Sy 0) := by rw [hvY]; exact hw
    have e00 : Sy (4 * 0) 0 = S (4 * 0) 0 := congrFun hvY 0
    have eY2 : Sy (4 * 0) 2 = S (4 * 0) 2 := congrFun hvY 2
    refine g_aload_n (q := 33) B dX7_cut_32 rfl 0 rfl ?_
    refine g_get (n := 72) (ty := tyX7) (q := 36) (v := .ref (yA Y (4 * 0))) B dX7_cut_33 rfl rfl rfl cls5 1 (by decide) w158 rfl ?_
    refine g_iload_n (q := 37) B dX7_cut_36 rfl 1 rfl ?_
    refine g_iload_n (q := 38) B dX7_cut_37 rfl 2 rfl ?_
    refine g_callV (n := (4 * 0)) (ty := tyX2) (q := 41) (As := [.int (iI p), .int (iI b)]) (st := []) B dX7_cut_38 rfl (c_X2_setCut (l := xL X) (S := Sy) (by decide) hwY p b ⟨by omega, by omega⟩ hb) eX2_setCut w738 (by decide) rfl (cw_N (by decide) (Sy ((4 * 0)))) cls2 rfl rfl (Nat.le_of_ble_eq_true rfl) (g_kV (fun Sz hSz => ?_))
    obtain ⟨hvSz, hfSz⟩ := hSz
    have hwZ : wf (vw Sz 0) := by rw [hvSz]; exact wf_cutG hwY _ _
    refine g_pop (q := 42) B dX7_cut_41 rfl rfl ?_
    refine g_aload_n (q := 43) B dX7_cut_42 rfl 0 rfl ?_
    refine g_get (n := 72) (ty := tyX7) (q := 46) (v := .ref (yA Y (4 * 0))) B dX7_cut_43 rfl rfl rfl cls5 1 (by decide) w158 rfl ?_
    refine g_callV (n := (4 * 0)) (ty := tyX2) (q := 49) (As := []) (st := []) B dX7_cut_46 rfl (c_X2_runs (l := xL X) (S := Sz) (by decide) (wf.q hwZ)) eX2_runs w510 (by decide) rfl (cw_N (by decide) (Sz ((4 * 0)))) cls2 rfl rfl (Nat.le_of_ble_eq_true rfl) (g_kE ?_)
    have := runsF_in (vw Sz 0)
    refine gx_iret B V dX7_cut_49 ?_
    have e0 : cd_cut (vw S 0) p = 0 := by unfold cd_cut; (repeat' split) <;> omega
    have ev : runsF (cutG (vw S 0) p b) = runsF (vw Sz 0) := by rw [hvSz, hvY]
    exact ⟨e0, by rw [ev], chP_fr hnx hrSy hnSy hkSy hfSy (by rw [hvSz, hvY]) hfSz⟩
  · refine gx_throw (cls := "java/lang/IndexOutOfBoundsException") (text := "no such place") B V gEx_I (by decide) (by decide) dX7_cut_11 dX7_cut_14 dX7_cut_15 dX7_cut_17 dX7_cut_20 ?_
    exact ⟨0, (show cd_cut (vw S 0) p = ((0 : Nat) : Int) + 1 by unfold cd_cut; (repeat' split) <;> omega), rfl, rfl⟩
set_option maxHeartbeats 4000000 in
theorem c_X7_give {Y : gY} {l : Launch} {S : SS} (hst : l.stackTraces = false) (hw : wf (vw S 0)) (hnx : 0 ≤ S 75 0 ∧ S 75 0 < 14) (hct : 0 ≤ S 75 1 ∧ S 75 1 ≤ 14) (r : Int) (hr : rI r) (o : Int) (ho : rI o) : gV Y l mX7_give S [.ref (yA Y 72), .int (iI r), .int (iI o)] (xO (cd_give (vw S 0) r o) (gapF (giveG (vw S 0) r o)) (fun S' => chP S S' (giveG (vw S 0) r o))) (xE2 (cd_give (vw S 0) r o) [eI, eA] (fun S' => S' = S)) := by
  refine gV_of hst (by decide) (Nat.le_of_ble_eq_true rfl) ?_
  intro X hXl B V
  obtain ⟨hr0, hr1⟩ := hr
  obtain ⟨ho0, ho1⟩ := ho
  obtain ⟨⟨hn0, hn16⟩, ⟨hb0, hb1⟩, ⟨hm0, hm1⟩, ⟨hs0, hs1⟩, ⟨hc0, hc1⟩, hctb, hkw, how, hun⟩ := wfS hw
  have m0 : vw S 0 0 = S (4 * 0) 0 := rfl
  have hrr := runsF_in (vw S 0)
  show gW Y X S 0 [(0, .ref (yA Y 72)), (1, .int (iI r)), (2, .int (iI o))] []
  refine g_aload_n (q := 1) B dX7_give_0 rfl 0 rfl ?_
  refine g_get (n := 72) (ty := tyX7) (q := 4) (v := .ref (yA Y (4 * 0))) B dX7_give_1 rfl rfl rfl cls5 1 (by decide) w158 rfl ?_
  refine g_iload_n (q := 5) B dX7_give_4 rfl 1 rfl ?_
  refine g_callV (n := (4 * 0)) (ty := tyX2) (q := 8) (As := [.int (iI r)]) (st := []) B dX7_give_5 rfl (c_X2_hasRun (l := xL X) (S := S) (by decide) (wf.q hw) r ⟨by omega, by omega⟩) eX2_hasRun w598 (by decide) rfl (cw_N (by decide) (S ((4 * 0)))) cls2 rfl rfl (Nat.le_of_ble_eq_true rfl) (g_kE ?_)
  have := runsF_in (vw S 0)
  refine g_ifb_ne (t := 21) (q := 11) B dX7_give_8 (by decide) rfl (fun cq8 => ?_) (fun cq8 => ?_)
  · refine g_iload_n (q := 22) B dX7_give_21 rfl 2 rfl ?_
    refine g_callS (q := 25) (As := [.int (iI o)]) (st := []) B dX7_give_22 rfl (c_X7_isOwner (l := xL X) (S := S) o ⟨by omega, by omega⟩) eX7_isOwner w665 (by decide) rfl rfl (Nat.le_of_ble_eq_true rfl) (g_kE ?_)
    refine g_ifb_ne (t := 38) (q := 28) B dX7_give_25 (by decide) rfl (fun cq25 => ?_) (fun cq25 => ?_)
    · refine g_aload_n (q := 39) B dX7_give_38 rfl 0 rfl ?_
      refine g_get (n := 72) (ty := tyX7) (q := 42) (v := .ref (yA Y 75)) B dX7_give_39 rfl rfl rfl cls5 3 (by decide) w160 rfl ?_
      refine g_aload_n (q := 43) B dX7_give_42 rfl 0 rfl ?_
      refine g_get (n := 72) (ty := tyX7) (q := 46) (v := .ref (yA Y (4 * 0))) B dX7_give_43 rfl rfl rfl cls5 1 (by decide) w158 rfl ?_
      refine g_callV (n := 75) (ty := tyX1) (q := 49) (As := [.ref (yA Y (4 * 0))]) (st := []) B dX7_give_46 rfl (c_X1_remember (l := xL X) (S := S) hnx hct) eX1_remember w630 (by decide) rfl rfl cls1 rfl rfl (Nat.le_of_ble_eq_true rfl) (g_k0 (fun Sy hSy => ?_))
      obtain ⟨hrSy, ⟨hnSy, hkSy⟩, hfSy⟩ := hSy
      have hvY := rm_vw hfSy
      have hwY : wf (vw Sy 0) := by rw [hvY]; exact hw
      have e00 : Sy (4 * 0) 0 = S (4 * 0) 0 := congrFun hvY 0
      have eY2 : Sy (4 * 0) 2 = S (4 * 0) 2 := congrFun hvY 2
      refine g_aload_n (q := 50) B dX7_give_49 rfl 0 rfl ?_
      refine g_get (n := 72) (ty := tyX7) (q := 53) (v := .ref (yA Y (4 * 0))) B dX7_give_50 rfl rfl rfl cls5 1 (by decide) w158 rfl ?_
      refine g_iload_n (q := 54) B dX7_give_53 rfl 1 rfl ?_
      refine g_iload_n (q := 55) B dX7_give_54 rfl 2 rfl ?_
      refine g_callV (n := (4 * 0)) (ty := tyX2) (q := 58) (As := [.int (iI r), .int (iI o)]) (st := []) B dX7_give_55 rfl (c_X2_giveRun (l := xL X) (S := Sy) (by decide) (wf.q hwY) r o ⟨by omega, by omega⟩ ⟨by omega, by omega⟩) eX2_giveRun w667 (by decide) rfl (cw_N (by decide) (Sy ((4 * 0)))) cls2 rfl rfl (Nat.le_of_ble_eq_true rfl) (g_kV (fun Sz hSz => ?_))
      obtain ⟨hvSz, hfSz⟩ := hSz
      have hwZ : wf (vw Sz 0) := by rw [hvSz]; exact wf_giveG hwY _ _
      refine g_pop (q := 59) B dX7_give_58 rfl rfl ?_
      refine g_aload_n (q := 60) B dX7_give_59 rfl 0 rfl ?_
      refine g_get (n := 72) (ty := tyX7) (q := 63) (v := .ref (yA Y (4 * 0))) B dX7_give_60 rfl rfl rfl cls5 1 (by decide) w158 rfl ?_
      refine g_callV (n := (4 * 0)) (ty := tyX2) (q := 66) (As := []) (st := []) B dX7_give_63 rfl (c_X2_gap (l := xL X) (S := Sz) (by decide) hwZ) eX2_gap w511 (by decide) rfl (cw_N (by decide) (Sz ((4 * 0)))) cls2 rfl rfl (Nat.le_of_ble_eq_true rfl) (g_kE ?_)
      have := gapF_in hwZ
      refine gx_iret B V dX7_give_66 ?_
      have e0 : cd_give (vw S 0) r o = 0 := by unfold cd_give; (repeat' split) <;> omega
      have ev : gapF (giveG (vw S 0) r o) = gapF (vw Sz 0) := by rw [hvSz, hvY]
      exact ⟨e0, by rw [ev], chP_fr hnx hrSy hnSy hkSy hfSy (by rw [hvSz, hvY]) hfSz⟩
    · refine gx_throw (cls := "java/lang/IllegalArgumentException") (text := "owner is not 0, 1 or NONE") B V gEx_A (by decide) (by decide) dX7_give_28 dX7_give_31 dX7_give_32 dX7_give_34 dX7_give_37 ?_
      exact ⟨1, (show cd_give (vw S 0) r o = ((1 : Nat) : Int) + 1 by unfold cd_give; (repeat' split) <;> omega), rfl, rfl⟩
  · refine gx_throw (cls := "java/lang/IndexOutOfBoundsException") (text := "no such run") B V gEx_I (by decide) (by decide) dX7_give_11 dX7_give_14 dX7_give_15 dX7_give_17 dX7_give_20 ?_
    exact ⟨0, (show cd_give (vw S 0) r o = ((0 : Nat) : Int) + 1 by unfold cd_give; (repeat' split) <;> omega), rfl, rfl⟩
set_option maxHeartbeats 4000000 in
theorem c_X7_take {Y : gY} {l : Launch} {S : SS} (hst : l.stackTraces = false) (hw : wf (vw S 0)) (hnx : 0 ≤ S 75 0 ∧ S 75 0 < 14) (hct : 0 ≤ S 75 1 ∧ S 75 1 ≤ 14) (r : Int) (hr : rI r) : gV Y l mX7_take S [.ref (yA Y 72), .int (iI r)] (xO (cd_take (vw S 0) r) (whyF (vw S 0) r) (fun S' => chP S S' (takeM (vw S 0) r))) (xE2 (cd_take (vw S 0) r) [eI] (fun S' => S' = S)) := by
  refine gV_of hst (by decide) (Nat.le_of_ble_eq_true rfl) ?_
  intro X hXl B V
  obtain ⟨hr0, hr1⟩ := hr
  obtain ⟨⟨hn0, hn16⟩, ⟨hb0, hb1⟩, ⟨hm0, hm1⟩, ⟨hs0, hs1⟩, ⟨hc0, hc1⟩, hctb, hkw, how, hun⟩ := wfS hw
  have m0 : vw S 0 0 = S (4 * 0) 0 := rfl
  have hrr := runsF_in (vw S 0)
  show gW Y X S 0 [(0, .ref (yA Y 72)), (1, .int (iI r))] []
  refine g_aload_n (q := 1) B dX7_take_0 rfl 0 rfl ?_
  refine g_get (n := 72) (ty := tyX7) (q := 4) (v := .ref (yA Y (4 * 0))) B dX7_take_1 rfl rfl rfl cls5 1 (by decide) w158 rfl ?_
  refine g_iload_n (q := 5) B dX7_take_4 rfl 1 rfl ?_
  refine g_callV (n := (4 * 0)) (ty := tyX2) (q := 8) (As := [.int (iI r)]) (st := []) B dX7_take_5 rfl (c_X2_hasRun (l := xL X) (S := S) (by decide) (wf.q hw) r ⟨by omega, by omega⟩) eX2_hasRun w598 (by decide) rfl (cw_N (by decide) (S ((4 * 0)))) cls2 rfl rfl (Nat.le_of_ble_eq_true rfl) (g_kE ?_)
  have := runsF_in (vw S 0)
  refine g_ifb_ne (t := 21) (q := 11) B dX7_take_8 (by decide) rfl (fun cq8 => ?_) (fun cq8 => ?_)
  · refine g_aload_n (q := 22) B dX7_take_21 rfl 0 rfl ?_
    refine g_get (n := 72) (ty := tyX7) (q := 25) (v := .ref (yA Y 75)) B dX7_take_22 rfl rfl rfl cls5 3 (by decide) w160 rfl ?_
    refine g_aload_n (q := 26) B dX7_take_25 rfl 0 rfl ?_
    refine g_get (n := 72) (ty := tyX7) (q := 29) (v := .ref (yA Y (4 * 0))) B dX7_take_26 rfl rfl rfl cls5 1 (by decide) w158 rfl ?_
    refine g_callV (n := 75) (ty := tyX1) (q := 32) (As := [.ref (yA Y (4 * 0))]) (st := []) B dX7_take_29 rfl (c_X1_remember (l := xL X) (S := S) hnx hct) eX1_remember w630 (by decide) rfl rfl cls1 rfl rfl (Nat.le_of_ble_eq_true rfl) (g_k0 (fun Sy hSy => ?_))
    obtain ⟨hrSy, ⟨hnSy, hkSy⟩, hfSy⟩ := hSy
    have hvY := rm_vw hfSy
    have hwY : wf (vw Sy 0) := by rw [hvY]; exact hw
    have e00 : Sy (4 * 0) 0 = S (4 * 0) 0 := congrFun hvY 0
    have eY2 : Sy (4 * 0) 2 = S (4 * 0) 2 := congrFun hvY 2
    refine g_aload_n (q := 33) B dX7_take_32 rfl 0 rfl ?_
    refine g_get (n := 72) (ty := tyX7) (q := 36) (v := .ref (yA Y (4 * 0))) B dX7_take_33 rfl rfl rfl cls5 1 (by decide) w158 rfl ?_
    refine g_iload_n (q := 37) B dX7_take_36 rfl 1 rfl ?_
    refine g_callV (n := (4 * 0)) (ty := tyX2) (q := 40) (As := [.int (iI r)]) (st := []) B dX7_take_37 rfl (c_X2_reasonAgainstTaking (l := xL X) (S := Sy) (by decide) hwY r (by omega) (by rw [hvY]; omega)) eX2_reasonAgainstTaking w675 (by decide) rfl (cw_N (by decide) (Sy ((4 * 0)))) cls2 rfl rfl (Nat.le_of_ble_eq_true rfl) (g_kE ?_)
    have := whyF_in (vw Sy 0) r
    refine g_istore_n (q := 41) B dX7_take_40 rfl (by decide) (L' := [(2, .int (iI (whyF (vw Sy 0) r))), (0, .ref (yA Y 72)), (1, .int (iI r))]) rfl ?_
    refine g_iload_n (q := 42) B dX7_take_41 rfl 0 rfl ?_
    refine g_if_ne (t := 57) (q := 45) B dX7_take_42 (by decide) rfl ⟨by omega, by omega⟩ (fun cq42 => ?_) (fun cq42 => ?_)
    · refine g_aload_n (q := 58) B dX7_take_57 rfl 1 rfl ?_
      refine g_get (n := 72) (ty := tyX7) (q := 61) (v := .ref (yA Y (4 * 0))) B dX7_take_58 rfl rfl rfl cls5 1 (by decide) w158 rfl ?_
      refine g_dup (q := 62) B dX7_take_61 rfl rfl ?_
      refine g_get (n := (4 * 0)) (ty := tyX2) (q := 65) (v := .int (iI (Sy ((4 * 0)) 3))) B dX7_take_62 rfl rfl (cw_N (by decide) (Sy ((4 * 0)))) cls2 3 (by decide) w74 rfl ?_
      refine g_iconst (q := 66) B dX7_take_65 rfl ?_
      refine g_iadd (q := 67) B dX7_take_66 rfl ?_
      refine g_put (n := (4 * 0)) (ty := tyX2) (q := 70) B dX7_take_67 rfl rfl (cw_N (by decide) (Sy ((4 * 0)))) cls2 3 (by decide) w74 rfl rfl rfl (Nat.le_of_ble_eq_true rfl) ((uq (Sy ((4 * 0))) 3 ((Sy ((4 * 0)) 3) + 1))) (cw_N (by decide) ((uq (Sy ((4 * 0))) 3 ((Sy ((4 * 0)) 3) + 1)))) ?_
      refine g_iload_n (q := 71) B dX7_take_70 rfl 0 rfl ?_
      refine gx_iret B V dX7_take_71 ?_
      have e0 : cd_take (vw S 0) r = 0 := by unfold cd_take; (repeat' split) <;> omega
      have ev : whyF (vw S 0) r = whyF (vw Sy 0) r := by rw [hvY]
      exact ⟨e0, by rw [ev], chP_fr hnx hrSy hnSy hkSy hfSy (by rw [vw_us0 Sy 0 (by decide) (by decide), hvY, takeM, if_neg (by rw [← hvY]; exact cq42), show Sy (4 * 0) 3 = vw S 0 3 from congrFun hvY 3]) (fr_us 0 (by decide))⟩
    · refine g_aload_n (q := 46) B dX7_take_45 rfl 1 rfl ?_
      refine g_get (n := 72) (ty := tyX7) (q := 49) (v := .ref (yA Y (4 * 0))) B dX7_take_46 rfl rfl rfl cls5 1 (by decide) w158 rfl ?_
      refine g_iload_n (q := 50) B dX7_take_49 rfl 2 rfl ?_
      refine g_callV (n := (4 * 0)) (ty := tyX2) (q := 53) (As := [.int (iI r)]) (st := []) B dX7_take_50 rfl (c_X2_takeRun (l := xL X) (S := Sy) (by decide) hwY r ⟨by omega, by omega⟩) eX2_takeRun w676 (by decide) rfl (cw_N (by decide) (Sy ((4 * 0)))) cls2 rfl rfl (Nat.le_of_ble_eq_true rfl) (g_kV (fun Sz hSz => ?_))
      obtain ⟨hvSz, hfSz⟩ := hSz
      refine g_pop (q := 54) B dX7_take_53 rfl rfl ?_
      refine g_goto (q := 70) B dX7_take_54 (by decide) ?_
      refine g_iload_n (q := 71) B dX7_take_70 rfl 0 rfl ?_
      refine gx_iret B V dX7_take_71 ?_
      have e0 : cd_take (vw S 0) r = 0 := by unfold cd_take; (repeat' split) <;> omega
      have ev : whyF (vw S 0) r = whyF (vw Sy 0) r := by rw [hvY]
      exact ⟨e0, by rw [ev], chP_fr hnx hrSy hnSy hkSy hfSy (by rw [hvSz, hvY, takeM_G (by omega) (by omega) (by rw [← hvY]; exact cq42)]) hfSz⟩
  · refine gx_throw (cls := "java/lang/IndexOutOfBoundsException") (text := "no such run") B V gEx_I (by decide) (by decide) dX7_take_11 dX7_take_14 dX7_take_15 dX7_take_17 dX7_take_20 ?_
    exact ⟨0, (show cd_take (vw S 0) r = ((0 : Nat) : Int) + 1 by unfold cd_take; (repeat' split) <;> omega), rfl, rfl⟩
set_option maxHeartbeats 4000000 in
theorem c_X7_deal {Y : gY} {l : Launch} {S : SS} (hst : l.stackTraces = false) (hw : wf (vw S 0)) (hnx : 0 ≤ S 75 0 ∧ S 75 0 < 14) (hct : 0 ≤ S 75 1 ∧ S 75 1 ≤ 14) (s : Int) (hs : rI s) : gV Y l mX7_deal S [.ref (yA Y 72), .int (iI s)] (xO (cd_01 s) (gapF (dealG (vw S 0) s)) (fun S' => chP S S' (dealG (vw S 0) s))) (xE2 (cd_01 s) [eI] (fun S' => S' = S)) := by
  refine gV_of hst (by decide) (Nat.le_of_ble_eq_true rfl) ?_
  intro X hXl B V
  obtain ⟨hs0, hs1⟩ := hs
  obtain ⟨⟨hn0, hn16⟩, ⟨hb0, hb1⟩, ⟨hm0, hm1⟩, ⟨hs0, hs1⟩, ⟨hc0, hc1⟩, hctb, hkw, how, hun⟩ := wfS hw
  have m0 : vw S 0 0 = S (4 * 0) 0 := rfl
  have hrr := runsF_in (vw S 0)
  show gW Y X S 0 [(0, .ref (yA Y 72)), (1, .int (iI s))] []
  refine g_iload_n (q := 1) B dX7_deal_0 rfl 1 rfl ?_
  refine g_callS (q := 4) (As := [.int (iI s)]) (st := []) B dX7_deal_1 rfl (c_X7_isSister (l := xL X) (S := S) s ⟨by omega, by omega⟩) eX7_isSister w452 (by decide) rfl rfl (Nat.le_of_ble_eq_true rfl) (g_kE ?_)
  refine g_ifb_ne (t := 17) (q := 7) B dX7_deal_4 (by decide) rfl (fun cq4 => ?_) (fun cq4 => ?_)
  · refine g_aload_n (q := 18) B dX7_deal_17 rfl 0 rfl ?_
    refine g_get (n := 72) (ty := tyX7) (q := 21) (v := .ref (yA Y 75)) B dX7_deal_18 rfl rfl rfl cls5 3 (by decide) w160 rfl ?_
    refine g_aload_n (q := 22) B dX7_deal_21 rfl 0 rfl ?_
    refine g_get (n := 72) (ty := tyX7) (q := 25) (v := .ref (yA Y (4 * 0))) B dX7_deal_22 rfl rfl rfl cls5 1 (by decide) w158 rfl ?_
    refine g_callV (n := 75) (ty := tyX1) (q := 28) (As := [.ref (yA Y (4 * 0))]) (st := []) B dX7_deal_25 rfl (c_X1_remember (l := xL X) (S := S) hnx hct) eX1_remember w630 (by decide) rfl rfl cls1 rfl rfl (Nat.le_of_ble_eq_true rfl) (g_k0 (fun Sy hSy => ?_))
    obtain ⟨hrSy, ⟨hnSy, hkSy⟩, hfSy⟩ := hSy
    have hvY := rm_vw hfSy
    have hwY : wf (vw Sy 0) := by rw [hvY]; exact hw
    have e00 : Sy (4 * 0) 0 = S (4 * 0) 0 := congrFun hvY 0
    have eY2 : Sy (4 * 0) 2 = S (4 * 0) 2 := congrFun hvY 2
    refine g_aload_n (q := 29) B dX7_deal_28 rfl 0 rfl ?_
    refine g_get (n := 72) (ty := tyX7) (q := 32) (v := .ref (yA Y (4 * 0))) B dX7_deal_29 rfl rfl rfl cls5 1 (by decide) w158 rfl ?_
    refine g_iload_n (q := 33) B dX7_deal_32 rfl 1 rfl ?_
    refine g_callV (n := (4 * 0)) (ty := tyX2) (q := 36) (As := [.int (iI s)]) (st := []) B dX7_deal_33 rfl (c_X2_dealRuns (l := xL X) (S := Sy) (by decide) hwY s ⟨by omega, by omega⟩) eX2_dealRuns w685 (by decide) rfl (cw_N (by decide) (Sy ((4 * 0)))) cls2 rfl rfl (Nat.le_of_ble_eq_true rfl) (g_kV (fun Sz hSz => ?_))
    obtain ⟨hvSz, hfSz⟩ := hSz
    have hwZ : wf (vw Sz 0) := by rw [hvSz]; exact wf_dealG hwY _
    refine g_pop (q := 37) B dX7_deal_36 rfl rfl ?_
    refine g_aload_n (q := 38) B dX7_deal_37 rfl 0 rfl ?_
    refine g_get (n := 72) (ty := tyX7) (q := 41) (v := .ref (yA Y (4 * 0))) B dX7_deal_38 rfl rfl rfl cls5 1 (by decide) w158 rfl ?_
    refine g_callV (n := (4 * 0)) (ty := tyX2) (q := 44) (As := []) (st := []) B dX7_deal_41 rfl (c_X2_gap (l := xL X) (S := Sz) (by decide) hwZ) eX2_gap w511 (by decide) rfl (cw_N (by decide) (Sz ((4 * 0)))) cls2 rfl rfl (Nat.le_of_ble_eq_true rfl) (g_kE ?_)
    have := gapF_in hwZ
    refine gx_iret B V dX7_deal_44 ?_
    have e0 : cd_01 s = 0 := by unfold cd_01; (repeat' split) <;> omega
    have ev : gapF (dealG (vw S 0) s) = gapF (vw Sz 0) := by rw [hvSz, hvY]
    exact ⟨e0, by rw [ev], chP_fr hnx hrSy hnSy hkSy hfSy (by rw [hvSz, hvY]) hfSz⟩
  · refine gx_throw (cls := "java/lang/IndexOutOfBoundsException") (text := "no such sister") B V gEx_I (by decide) (by decide) dX7_deal_7 dX7_deal_10 dX7_deal_11 dX7_deal_13 dX7_deal_16 ?_
    exact ⟨0, (show cd_01 s = ((0 : Nat) : Int) + 1 by unfold cd_01; (repeat' split) <;> omega), rfl, rfl⟩
set_option maxHeartbeats 4000000 in
theorem c_X7_set {Y : gY} {l : Launch} {S : SS} (hst : l.stackTraces = false) (hw : wf (vw S 0)) (hnx : 0 ≤ S 75 0 ∧ S 75 0 < 14) (hct : 0 ≤ S 75 1 ∧ S 75 1 ≤ 14) (v : Int) (hv : rI v) : gV Y l mX7_set S [.ref (yA Y 72), .int (iI v)] (xO (cd_01 v) (S (4 * 0) 4) (fun S' => chP S S' (setG (vw S 0) v))) (xE2 (cd_01 v) [eA] (fun S' => S' = S)) := by
  refine gV_of hst (by decide) (Nat.le_of_ble_eq_true rfl) ?_
  intro X hXl B V
  obtain ⟨hv0, hv1⟩ := hv
  obtain ⟨⟨hn0, hn16⟩, ⟨hb0, hb1⟩, ⟨hm0, hm1⟩, ⟨hs0, hs1⟩, ⟨hc0, hc1⟩, hctb, hkw, how, hun⟩ := wfS hw
  have m0 : vw S 0 0 = S (4 * 0) 0 := rfl
  have hrr := runsF_in (vw S 0)
  show gW Y X S 0 [(0, .ref (yA Y 72)), (1, .int (iI v))] []
  refine g_iload_n (q := 1) B dX7_set_0 rfl 1 rfl ?_
  refine g_callS (q := 4) (As := [.int (iI v)]) (st := []) B dX7_set_1 rfl (c_X7_isSetting (l := xL X) (S := S) v ⟨by omega, by omega⟩) eX7_isSetting w746 (by decide) rfl rfl (Nat.le_of_ble_eq_true rfl) (g_kE ?_)
  refine g_ifb_ne (t := 17) (q := 7) B dX7_set_4 (by decide) rfl (fun cq4 => ?_) (fun cq4 => ?_)
  · refine g_aload_n (q := 18) B dX7_set_17 rfl 0 rfl ?_
    refine g_get (n := 72) (ty := tyX7) (q := 21) (v := .ref (yA Y 75)) B dX7_set_18 rfl rfl rfl cls5 3 (by decide) w160 rfl ?_
    refine g_aload_n (q := 22) B dX7_set_21 rfl 0 rfl ?_
    refine g_get (n := 72) (ty := tyX7) (q := 25) (v := .ref (yA Y (4 * 0))) B dX7_set_22 rfl rfl rfl cls5 1 (by decide) w158 rfl ?_
    refine g_callV (n := 75) (ty := tyX1) (q := 28) (As := [.ref (yA Y (4 * 0))]) (st := []) B dX7_set_25 rfl (c_X1_remember (l := xL X) (S := S) hnx hct) eX1_remember w630 (by decide) rfl rfl cls1 rfl rfl (Nat.le_of_ble_eq_true rfl) (g_k0 (fun Sy hSy => ?_))
    obtain ⟨hrSy, ⟨hnSy, hkSy⟩, hfSy⟩ := hSy
    have hvY := rm_vw hfSy
    have hwY : wf (vw Sy 0) := by rw [hvY]; exact hw
    have e00 : Sy (4 * 0) 0 = S (4 * 0) 0 := congrFun hvY 0
    have eY2 : Sy (4 * 0) 2 = S (4 * 0) 2 := congrFun hvY 2
    refine g_aload_n (q := 29) B dX7_set_28 rfl 0 rfl ?_
    refine g_get (n := 72) (ty := tyX7) (q := 32) (v := .ref (yA Y (4 * 0))) B dX7_set_29 rfl rfl rfl cls5 1 (by decide) w158 rfl ?_
    refine g_get (n := (4 * 0)) (ty := tyX2) (q := 35) (v := .int (iI (Sy ((4 * 0)) 4))) B dX7_set_32 rfl rfl (cw_N (by decide) (Sy ((4 * 0)))) cls2 4 (by decide) w76 rfl ?_
    refine g_istore_n (q := 36) B dX7_set_35 rfl (by decide) (L' := [(2, .int (iI (Sy ((4 * 0)) 4))), (0, .ref (yA Y 72)), (1, .int (iI v))]) rfl ?_
    refine g_aload_n (q := 37) B dX7_set_36 rfl 1 rfl ?_
    refine g_get (n := 72) (ty := tyX7) (q := 40) (v := .ref (yA Y (4 * 0))) B dX7_set_37 rfl rfl rfl cls5 1 (by decide) w158 rfl ?_
    refine g_iload_n (q := 41) B dX7_set_40 rfl 2 rfl ?_
    refine g_callV (n := (4 * 0)) (ty := tyX2) (q := 44) (As := [.int (iI v)]) (st := []) B dX7_set_41 rfl (c_X2_chooseSetting (l := xL X) (S := Sy) (by decide)  v ⟨by omega, by omega⟩) eX2_chooseSetting w748 (by decide) rfl (cw_N (by decide) (Sy ((4 * 0)))) cls2 rfl rfl (Nat.le_of_ble_eq_true rfl) (g_kV (fun Sz hSz => ?_))
    obtain ⟨hvSz, hfSz⟩ := hSz
    refine g_pop (q := 45) B dX7_set_44 rfl rfl ?_
    refine g_iload_n (q := 46) B dX7_set_45 rfl 0 rfl ?_
    refine gx_iret B V dX7_set_46 ?_
    have e0 : cd_01 v = 0 := by unfold cd_01; (repeat' split) <;> omega
    have ev : S (4 * 0) 4 = Sy ((4 * 0)) 4 := by exact (congrFun hvY 4).symm
    exact ⟨e0, by rw [ev], chP_fr hnx hrSy hnSy hkSy hfSy (by rw [hvSz, hvY]) hfSz⟩
  · refine gx_throw (cls := "java/lang/IllegalArgumentException") (text := "v is neither 0 nor 1") B V gEx_A (by decide) (by decide) dX7_set_7 dX7_set_10 dX7_set_11 dX7_set_13 dX7_set_16 ?_
    exact ⟨0, (show cd_01 v = ((0 : Nat) : Int) + 1 by unfold cd_01; (repeat' split) <;> omega), rfl, rfl⟩
set_option maxHeartbeats 4000000 in
theorem c_X7_turnRound {Y : gY} {l : Launch} {S : SS} (hw : wf (vw S 0)) (hnx : 0 ≤ S 75 0 ∧ S 75 0 < 14) (hct : 0 ≤ S 75 1 ∧ S 75 1 ≤ 14) : gM Y l mX7_turnRound S [.ref (yA Y 72)] (pV (.int (iI (S (4 * 0) 0))) (fun S' => chP S S' (revF (vw S 0)))) := by
  refine gM_of (by decide) (Nat.le_of_ble_eq_true rfl) ?_
  intro X hXl B E
  obtain ⟨⟨hn0, hn16⟩, ⟨hb0, hb1⟩, ⟨hm0, hm1⟩, ⟨hs0, hs1⟩, ⟨hc0, hc1⟩, hctb, hkw, how, hun⟩ := wfS hw
  show gW Y X S 0 [(0, .ref (yA Y 72))] []
  refine g_aload_n (q := 1) B dX7_turnRound_0 rfl 0 rfl ?_
  refine g_get (n := 72) (ty := tyX7) (q := 4) (v := .ref (yA Y 75)) B dX7_turnRound_1 rfl rfl rfl cls5 3 (by decide) w160 rfl ?_
  refine g_aload_n (q := 5) B dX7_turnRound_4 rfl 0 rfl ?_
  refine g_get (n := 72) (ty := tyX7) (q := 8) (v := .ref (yA Y (4 * 0))) B dX7_turnRound_5 rfl rfl rfl cls5 1 (by decide) w158 rfl ?_
  refine g_callV (n := 75) (ty := tyX1) (q := 11) (As := [.ref (yA Y (4 * 0))]) (st := []) B dX7_turnRound_8 rfl (c_X1_remember (l := xL X) (S := S) hnx hct) eX1_remember w630 (by decide) rfl rfl cls1 rfl rfl (Nat.le_of_ble_eq_true rfl) (g_k0 (fun Sy hSy => ?_))
  obtain ⟨hrSy, ⟨hnSy, hkSy⟩, hfSy⟩ := hSy
  have hvY := rm_vw hfSy
  have hwY : wf (vw Sy 0) := by rw [hvY]; exact hw
  have e00 : Sy (4 * 0) 0 = S (4 * 0) 0 := congrFun hvY 0
  have eY2 : Sy (4 * 0) 2 = S (4 * 0) 2 := congrFun hvY 2
  refine g_aload_n (q := 12) B dX7_turnRound_11 rfl 0 rfl ?_
  refine g_get (n := 72) (ty := tyX7) (q := 15) (v := .ref (yA Y (4 * 0))) B dX7_turnRound_12 rfl rfl rfl cls5 1 (by decide) w158 rfl ?_
  refine g_callV (n := (4 * 0)) (ty := tyX2) (q := 18) (As := []) (st := []) B dX7_turnRound_15 rfl (c_X2_reverseRing (l := xL X) (S := Sy) (by decide) hwY  ) eX2_reverseRing w926 (by decide) rfl (cw_N (by decide) (Sy ((4 * 0)))) cls2 rfl rfl (Nat.le_of_ble_eq_true rfl) (g_k0 (fun Sz hSz => ?_))
  obtain ⟨hvSz, hfSz⟩ := hSz
  refine g_aload_n (q := 19) B dX7_turnRound_18 rfl 0 rfl ?_
  refine g_get (n := 72) (ty := tyX7) (q := 22) (v := .ref (yA Y (4 * 0))) B dX7_turnRound_19 rfl rfl rfl cls5 1 (by decide) w158 rfl ?_
  refine g_get (n := (4 * 0)) (ty := tyX2) (q := 25) (v := .int (iI (Sz ((4 * 0)) 0))) B dX7_turnRound_22 rfl rfl (cw_N (by decide) (Sz ((4 * 0)))) cls2 0 (by decide) w67 rfl ?_
  refine g_iret B E dX7_turnRound_25 ?_
  exact ⟨by rw [show Sz (4 * 0) 0 = S (4 * 0) 0 from (congrFun hvSz 0).trans (by rw [hvY]; rfl)], chP_fr hnx hrSy hnSy hkSy hfSy (by rw [hvSz, hvY]) hfSz⟩
set_option maxHeartbeats 4000000 in
theorem c_X7_undo {Y : gY} {l : Launch} {S : SS} (hst : l.stackTraces = false) (hnx : 0 ≤ S 75 0 ∧ S 75 0 < 14) (hct : 0 ≤ S 75 1 ∧ S 75 1 ≤ 14) : gV Y l mX7_undo S [.ref (yA Y 72)] (xO (cd_undo (S 75 1)) (S 75 1 - 1) (fun S' => tbP S S')) (xE2 (cd_undo (S 75 1)) [eS] (fun S' => S' = S)) := by
  refine gV_of hst (by decide) (Nat.le_of_ble_eq_true rfl) ?_
  intro X hXl B V
  show gW Y X S 0 [(0, .ref (yA Y 72))] []
  refine g_aload_n (q := 1) B dX7_undo_0 rfl 0 rfl ?_
  refine g_get (n := 72) (ty := tyX7) (q := 4) (v := .ref (yA Y 75)) B dX7_undo_1 rfl rfl rfl cls5 3 (by decide) w160 rfl ?_
  refine g_get (n := 75) (ty := tyX1) (q := 7) (v := .int (iI (S 75 1))) B dX7_undo_4 rfl rfl rfl cls1 2 (by decide) w113 rfl ?_
  refine g_if_gt (t := 21) (q := 10) B dX7_undo_7 (by decide) rfl ⟨by omega, by omega⟩ (fun cq7 => ?_) (fun cq7 => ?_)
  · refine g_aload_n (q := 22) B dX7_undo_21 rfl 0 rfl ?_
    refine g_get (n := 72) (ty := tyX7) (q := 25) (v := .ref (yA Y 75)) B dX7_undo_22 rfl rfl rfl cls5 3 (by decide) w160 rfl ?_
    refine g_aload_n (q := 26) B dX7_undo_25 rfl 0 rfl ?_
    refine g_get (n := 72) (ty := tyX7) (q := 29) (v := .ref (yA Y (4 * 0))) B dX7_undo_26 rfl rfl rfl cls5 1 (by decide) w158 rfl ?_
    refine g_callV (n := 75) (ty := tyX1) (q := 32) (As := [.ref (yA Y (4 * 0))]) (st := []) B dX7_undo_29 rfl (c_X1_takeBack (l := xL X) (S := S) hnx (by omega)) eX1_takeBack w757 (by decide) rfl rfl cls1 rfl rfl (Nat.le_of_ble_eq_true rfl) (g_k0 (fun Sy hSy => ?_))
    obtain ⟨hrSy, ⟨hnSy, hkSy⟩, hfSy⟩ := hSy
    refine g_aload_n (q := 33) B dX7_undo_32 rfl 0 rfl ?_
    refine g_get (n := 72) (ty := tyX7) (q := 36) (v := .ref (yA Y 75)) B dX7_undo_33 rfl rfl rfl cls5 3 (by decide) w160 rfl ?_
    refine g_get (n := 75) (ty := tyX1) (q := 39) (v := .int (iI (Sy 75 1))) B dX7_undo_36 rfl rfl rfl cls1 2 (by decide) w113 rfl ?_
    refine gx_iret B V dX7_undo_39 ?_
    have e0 : cd_undo (S 75 1) = 0 := by unfold cd_undo; split <;> omega
    have ev : S 75 1 - 1 = Sy 75 1 := by exact hkSy.symm
    exact ⟨e0, by rw [ev], ⟨hrSy, ⟨hnSy, hkSy⟩, hfSy⟩⟩
  · refine gx_throwW (cls := "java/lang/IllegalStateException") (text := "no state is remembered") B V gEx_S (by decide) (by decide) dX7_undo_10 dX7_undo_13 dX7_undo_14 dX7_undo_17 dX7_undo_20 ?_
    exact ⟨0, (show cd_undo (S 75 1) = ((0 : Nat) : Int) + 1 by unfold cd_undo; split <;> omega), rfl, rfl⟩
