set_option maxHeartbeats 4000000 in
theorem c_X1_forgetAll {Y : gY} {l : Launch} {S : SS}  : gM Y l mX1_forgetAll S [.ref (yA Y 75)] (p0 (fun S' => S' = us S 75 (uq (S 75) 1 0))) := by
  refine gM_of (by decide) (Nat.le_of_ble_eq_true rfl) ?_
  intro X hXl B E
  show gW Y X S 0 [(0, .ref (yA Y 75))] []
  refine g_aload_n (q := 1) B dX1_forgetAll_0 rfl 0 rfl ?_
  refine g_iconst (q := 2) B dX1_forgetAll_1 rfl ?_
  refine g_put (n := 75) (ty := tyX1) (q := 5) B dX1_forgetAll_2 rfl rfl rfl cls1 2 (by decide) w112 rfl rfl rfl (Nat.le_of_ble_eq_true rfl) ((uq (S 75) 1 0)) rfl ?_
  refine g_vret B E dX1_forgetAll_5 ?_
  exact ⟨rfl, rfl⟩
set_option maxHeartbeats 4000000 in
theorem c_X1_remember {Y : gY} {l : Launch} {S : SS} (hnx : 0 ≤ S 75 0 ∧ S 75 0 < 14) (hct : 0 ≤ S 75 1 ∧ S 75 1 ≤ 14) : gM Y l mX1_remember S [.ref (yA Y 75), .ref (yA Y (4 * 0))] (p0 (rmP S)) := by
  refine gM_of (by decide) (Nat.le_of_ble_eq_true rfl) ?_
  intro X hXl B E
  show gW Y X S 0 [(0, .ref (yA Y 75)), (1, .ref (yA Y (4 * 0)))] []
  refine g_aload_n (q := 1) B dX1_remember_0 rfl 0 rfl ?_
  refine g_get (n := 75) (ty := tyX1) (q := 4) (v := .int (iI (S 75 0))) B dX1_remember_1 rfl rfl rfl cls1 1 (by decide) w111 rfl ?_
  refine g_if_lt (t := 19) (q := 7) B dX1_remember_4 (by decide) rfl ⟨by omega, by omega⟩ (fun cq4 => ?_) (fun cq4 => ?_)
  · exact absurd cq4 (by omega)
  · refine g_aload_n (q := 8) B dX1_remember_7 rfl 0 rfl ?_
    refine g_get (n := 75) (ty := tyX1) (q := 11) (v := .int (iI (S 75 0))) B dX1_remember_8 rfl rfl rfl cls1 1 (by decide) w111 rfl ?_
    refine g_aload_n (q := 12) B dX1_remember_11 rfl 0 rfl ?_
    refine g_get (n := 75) (ty := tyX1) (q := 15) (v := .ref (yA Y 76)) B dX1_remember_12 rfl rfl rfl cls1 0 (by decide) w110 rfl ?_
    refine g_alen (n := 76) (q := 16) B dX1_remember_15 rfl rfl rfl 4 rfl (z := 14) rfl ?_
    refine g_icmp_lt (t := 20) (q := 19) B dX1_remember_16 (by decide) rfl ⟨by omega, by omega⟩ ⟨by omega, by omega⟩ (fun cq16 => ?_) (fun cq16 => ?_)
    · refine g_aload_n (q := 21) B dX1_remember_20 rfl 0 rfl ?_
      refine g_get (n := 75) (ty := tyX1) (q := 24) (v := .ref (yA Y 76)) B dX1_remember_21 rfl rfl rfl cls1 0 (by decide) w110 rfl ?_
      refine g_aload_n (q := 25) B dX1_remember_24 rfl 0 rfl ?_
      refine g_get (n := 75) (ty := tyX1) (q := 28) (v := .int (iI (S 75 0))) B dX1_remember_25 rfl rfl rfl cls1 1 (by decide) w111 rfl ?_
      refine g_aald (n := 76) (q := 29) B dX1_remember_28 rfl rfl rfl (by decide) (by omega) (by omega) (x := yA Y (4 * (4 + (S 75 0).toNat))) rfl ?_
      refine g_astore_n (q := 30) B dX1_remember_29 rfl (by decide) (L' := [(2, .ref (yA Y (4 * (4 + (S 75 0).toNat)))), (0, .ref (yA Y 75)), (1, .ref (yA Y (4 * 0)))]) rfl ?_
      refine g_aload_n (q := 31) B dX1_remember_30 rfl 0 rfl ?_
      refine g_ifnonnull (q := 35) B dX1_remember_31 (by decide) ?_
      refine g_aload_n (q := 36) B dX1_remember_35 rfl 0 rfl ?_
      refine g_aload_n (q := 37) B dX1_remember_36 rfl 2 rfl ?_
      refine g_callV (n := (4 * (4 + (S 75 0).toNat))) (ty := tyX2) (q := 40) (As := [.ref (yA Y (4 * 0))]) (st := []) B dX1_remember_37 rfl (c_X2_becomeLike (l := xL X) (S := S) (by omega) (by decide) (by omega)) eX2_becomeLike w634 (by decide) rfl (cw_N (by omega) (S ((4 * (4 + (S 75 0).toNat))))) cls2 rfl rfl (Nat.le_of_ble_eq_true rfl) (g_k0 (fun Sy hSy => ?_))
      obtain ⟨hvSy, hfSy⟩ := hSy
      have e75 : Sy 75 = S 75 := hfSy 75 (by omega)
      have e0 : Sy 75 0 = S 75 0 := congrFun e75 0
      have e1 : Sy 75 1 = S 75 1 := congrFun e75 1
      refine g_aload_n (q := 41) B dX1_remember_40 rfl 1 rfl ?_
      refine g_aload_n (q := 42) B dX1_remember_41 rfl 1 rfl ?_
      refine g_get (n := 75) (ty := tyX1) (q := 45) (v := .int (iI (Sy 75 0))) B dX1_remember_42 rfl rfl rfl cls1 1 (by decide) w111 rfl ?_
      refine g_iconst (q := 46) B dX1_remember_45 rfl ?_
      refine g_iadd (q := 47) B dX1_remember_46 rfl ?_
      refine g_aload_n (q := 48) B dX1_remember_47 rfl 1 rfl ?_
      refine g_get (n := 75) (ty := tyX1) (q := 51) (v := .ref (yA Y 76)) B dX1_remember_48 rfl rfl rfl cls1 0 (by decide) w110 rfl ?_
      refine g_alen (n := 76) (q := 52) B dX1_remember_51 rfl rfl rfl 4 rfl (z := 14) rfl ?_
      refine g_icmp_ge (t := 64) (q := 55) B dX1_remember_52 (by decide) rfl ⟨by omega, by omega⟩ ⟨by omega, by omega⟩ (fun cq52 => ?_) (fun cq52 => ?_)
      · refine g_iconst (q := 65) B dX1_remember_64 rfl ?_
        refine g_put (n := 75) (ty := tyX1) (q := 68) B dX1_remember_65 rfl rfl rfl cls1 1 (by decide) w111 rfl rfl rfl (Nat.le_of_ble_eq_true rfl) ((uq (Sy 75) 0 0)) rfl ?_
        refine g_aload_n (q := 69) B dX1_remember_68 rfl 1 rfl ?_
        refine g_aload_n (q := 70) B dX1_remember_69 rfl 1 rfl ?_
        refine g_get (n := 75) (ty := tyX1) (q := 73) (v := .int (iI (Sy 75 1))) B dX1_remember_70 rfl (us_eq _ _ _) rfl cls1 2 (by decide) w112 rfl ?_
        refine g_iconst (q := 74) B dX1_remember_73 rfl ?_
        refine g_iadd (q := 75) B dX1_remember_74 rfl ?_
        refine g_aload_n (q := 76) B dX1_remember_75 rfl 1 rfl ?_
        refine g_get (n := 75) (ty := tyX1) (q := 79) (v := .ref (yA Y 76)) B dX1_remember_76 rfl (us_eq _ _ _) rfl cls1 0 (by decide) w110 rfl ?_
        refine g_alen (n := 76) (q := 80) B dX1_remember_79 rfl ((us_ne _ _ (by omega)).trans rfl) rfl 4 rfl (z := 14) rfl ?_
        refine g_min (q := 83) B dX1_remember_80 rfl w638 wst_min w32 wco_min (by decide) (Nat.le_of_ble_eq_true rfl) ⟨by omega, by omega⟩ ⟨by omega, by omega⟩ ?_
        refine g_put (n := 75) (ty := tyX1) (q := 86) B dX1_remember_83 rfl (us_eq _ _ _) rfl cls1 2 (by decide) w112 rfl rfl rfl (Nat.le_of_ble_eq_true rfl) ((uq ((uq (Sy 75) 0 0)) 1 (if 14 < (Sy 75 1) + 1 then 14 else (Sy 75 1) + 1))) rfl ?_
        refine g_eqS (us_us _ _ _ _) ?_
        refine g_vret B E dX1_remember_86 ?_
        refine ⟨rfl, ?_, ⟨?_, ?_⟩, fun m hm h => ?_⟩
        · rw [← hvSy]
          funext b
          unfold vw
          simp only [us_ne _ _ (show 4 * (4 + (S 75 0).toNat) ≠ 75 by omega), us_ne _ _ (show 4 * (4 + (S 75 0).toNat) + 1 ≠ 75 by omega), us_ne _ _ (show 4 * (4 + (S 75 0).toNat) + 2 ≠ 75 by omega), us_ne _ _ (show 4 * (4 + (S 75 0).toNat) + 3 ≠ 75 by omega)]
        · have eN : hxN (S 75 0) = 0 := by unfold hxN; exact if_neg (by omega)
          rw [eN]
          rfl
        · unfold hxC
          rw [← e1]
          rfl
        · simp only [us_ne _ _ hm]
          exact hfSy m h
      · refine g_aload_n (q := 56) B dX1_remember_55 rfl 1 rfl ?_
        refine g_get (n := 75) (ty := tyX1) (q := 59) (v := .int (iI (Sy 75 0))) B dX1_remember_56 rfl rfl rfl cls1 1 (by decide) w111 rfl ?_
        refine g_iconst (q := 60) B dX1_remember_59 rfl ?_
        refine g_iadd (q := 61) B dX1_remember_60 rfl ?_
        refine g_goto (q := 65) B dX1_remember_61 (by decide) ?_
        refine g_put (n := 75) (ty := tyX1) (q := 68) B dX1_remember_65 rfl rfl rfl cls1 1 (by decide) w111 rfl rfl rfl (Nat.le_of_ble_eq_true rfl) ((uq (Sy 75) 0 ((Sy 75 0) + 1))) rfl ?_
        refine g_aload_n (q := 69) B dX1_remember_68 rfl 1 rfl ?_
        refine g_aload_n (q := 70) B dX1_remember_69 rfl 1 rfl ?_
        refine g_get (n := 75) (ty := tyX1) (q := 73) (v := .int (iI (Sy 75 1))) B dX1_remember_70 rfl (us_eq _ _ _) rfl cls1 2 (by decide) w112 rfl ?_
        refine g_iconst (q := 74) B dX1_remember_73 rfl ?_
        refine g_iadd (q := 75) B dX1_remember_74 rfl ?_
        refine g_aload_n (q := 76) B dX1_remember_75 rfl 1 rfl ?_
        refine g_get (n := 75) (ty := tyX1) (q := 79) (v := .ref (yA Y 76)) B dX1_remember_76 rfl (us_eq _ _ _) rfl cls1 0 (by decide) w110 rfl ?_
        refine g_alen (n := 76) (q := 80) B dX1_remember_79 rfl ((us_ne _ _ (by omega)).trans rfl) rfl 4 rfl (z := 14) rfl ?_
        refine g_min (q := 83) B dX1_remember_80 rfl w638 wst_min w32 wco_min (by decide) (Nat.le_of_ble_eq_true rfl) ⟨by omega, by omega⟩ ⟨by omega, by omega⟩ ?_
        refine g_put (n := 75) (ty := tyX1) (q := 86) B dX1_remember_83 rfl (us_eq _ _ _) rfl cls1 2 (by decide) w112 rfl rfl rfl (Nat.le_of_ble_eq_true rfl) ((uq ((uq (Sy 75) 0 ((Sy 75 0) + 1))) 1 (if 14 < (Sy 75 1) + 1 then 14 else (Sy 75 1) + 1))) rfl ?_
        refine g_eqS (us_us _ _ _ _) ?_
        refine g_vret B E dX1_remember_86 ?_
        refine ⟨rfl, ?_, ⟨?_, ?_⟩, fun m hm h => ?_⟩
        · rw [← hvSy]
          funext b
          unfold vw
          simp only [us_ne _ _ (show 4 * (4 + (S 75 0).toNat) ≠ 75 by omega), us_ne _ _ (show 4 * (4 + (S 75 0).toNat) + 1 ≠ 75 by omega), us_ne _ _ (show 4 * (4 + (S 75 0).toNat) + 2 ≠ 75 by omega), us_ne _ _ (show 4 * (4 + (S 75 0).toNat) + 3 ≠ 75 by omega)]
        · have eN : hxN (S 75 0) = S 75 0 + 1 := by unfold hxN; exact if_pos (by omega)
          rw [eN, ← e0]
          rfl
        · unfold hxC
          rw [← e1]
          rfl
        · simp only [us_ne _ _ hm]
          exact hfSy m h
    · exact absurd cq16 (by omega)
set_option maxHeartbeats 4000000 in
theorem c_X1_takeBack {Y : gY} {l : Launch} {S : SS} (hnx : 0 ≤ S 75 0 ∧ S 75 0 < 14) (hct : 1 ≤ S 75 1 ∧ S 75 1 ≤ 14) : gM Y l mX1_takeBack S [.ref (yA Y 75), .ref (yA Y (4 * 0))] (p0 (tbP S)) := by
  refine gM_of (by decide) (Nat.le_of_ble_eq_true rfl) ?_
  intro X hXl B E
  show gW Y X S 0 [(0, .ref (yA Y 75)), (1, .ref (yA Y (4 * 0)))] []
  refine g_aload_n (q := 1) B dX1_takeBack_0 rfl 0 rfl ?_
  refine g_get (n := 75) (ty := tyX1) (q := 4) (v := .int (iI (S 75 1))) B dX1_takeBack_1 rfl rfl rfl cls1 2 (by decide) w112 rfl ?_
  refine g_if_le (t := 11) (q := 7) B dX1_takeBack_4 (by decide) rfl ⟨by omega, by omega⟩ (fun cq4 => ?_) (fun cq4 => ?_)
  · exact absurd cq4 (by omega)
  · refine g_aload_n (q := 8) B dX1_takeBack_7 rfl 1 rfl ?_
    refine g_ifnonnull (q := 12) B dX1_takeBack_8 (by decide) ?_
    refine g_aload_n (q := 13) B dX1_takeBack_12 rfl 0 rfl ?_
    refine g_get (n := 75) (ty := tyX1) (q := 16) (v := .int (iI (S 75 0))) B dX1_takeBack_13 rfl rfl rfl cls1 1 (by decide) w111 rfl ?_
    refine g_if_le (t := 28) (q := 19) B dX1_takeBack_16 (by decide) rfl ⟨by omega, by omega⟩ (fun cq16 => ?_) (fun cq16 => ?_)
    · refine g_aload_n (q := 29) B dX1_takeBack_28 rfl 0 rfl ?_
      refine g_get (n := 75) (ty := tyX1) (q := 32) (v := .ref (yA Y 76)) B dX1_takeBack_29 rfl rfl rfl cls1 0 (by decide) w110 rfl ?_
      refine g_alen (n := 76) (q := 33) B dX1_takeBack_32 rfl rfl rfl 4 rfl (z := 14) rfl ?_
      refine g_iconst (q := 34) B dX1_takeBack_33 rfl ?_
      refine g_isub (q := 35) B dX1_takeBack_34 rfl ?_
      refine g_istore_n (q := 36) B dX1_takeBack_35 rfl (by decide) (L' := [(2, .int (iI (14 - 1))), (0, .ref (yA Y 75)), (1, .ref (yA Y (4 * 0)))]) rfl ?_
      refine g_iload_n (q := 37) B dX1_takeBack_36 rfl 0 rfl ?_
      refine g_if_lt (t := 49) (q := 40) B dX1_takeBack_37 (by decide) rfl ⟨by omega, by omega⟩ (fun cq37 => ?_) (fun cq37 => ?_)
      · exact absurd cq37 (by omega)
      · refine g_iload_n (q := 41) B dX1_takeBack_40 rfl 0 rfl ?_
        refine g_aload_n (q := 42) B dX1_takeBack_41 rfl 1 rfl ?_
        refine g_get (n := 75) (ty := tyX1) (q := 45) (v := .ref (yA Y 76)) B dX1_takeBack_42 rfl rfl rfl cls1 0 (by decide) w110 rfl ?_
        refine g_alen (n := 76) (q := 46) B dX1_takeBack_45 rfl rfl rfl 4 rfl (z := 14) rfl ?_
        refine g_icmp_lt (t := 50) (q := 49) B dX1_takeBack_46 (by decide) rfl ⟨by omega, by omega⟩ ⟨by omega, by omega⟩ (fun cq46 => ?_) (fun cq46 => ?_)
        · refine g_aload_n (q := 51) B dX1_takeBack_50 rfl 2 rfl ?_
          refine g_aload_n (q := 52) B dX1_takeBack_51 rfl 1 rfl ?_
          refine g_get (n := 75) (ty := tyX1) (q := 55) (v := .ref (yA Y 76)) B dX1_takeBack_52 rfl rfl rfl cls1 0 (by decide) w110 rfl ?_
          refine g_iload_n (q := 56) B dX1_takeBack_55 rfl 0 rfl ?_
          refine g_aald (n := 76) (q := 57) B dX1_takeBack_56 rfl rfl rfl (by decide) (by omega) (by omega) (x := yA Y (4 * (4 + (14 - 1 : Int).toNat))) rfl ?_
          refine g_callV (n := (4 * 0)) (ty := tyX2) (q := 60) (As := [.ref (yA Y (4 * (4 + (14 - 1 : Int).toNat)))]) (st := []) B dX1_takeBack_57 rfl (c_X2_becomeLike (l := xL X) (S := S) (by decide) (by omega) (by omega)) eX2_becomeLike w634 (by decide) rfl (cw_N (by decide) (S ((4 * 0)))) cls2 rfl rfl (Nat.le_of_ble_eq_true rfl) (g_k0 (fun Sy hSy => ?_))
          obtain ⟨hvSy, hfSy⟩ := hSy
          have e75 : Sy 75 = S 75 := hfSy 75 (by omega)
          have e0 : Sy 75 0 = S 75 0 := congrFun e75 0
          have e1 : Sy 75 1 = S 75 1 := congrFun e75 1
          refine g_aload_n (q := 61) B dX1_takeBack_60 rfl 1 rfl ?_
          refine g_iload_n (q := 62) B dX1_takeBack_61 rfl 0 rfl ?_
          refine g_put (n := 75) (ty := tyX1) (q := 65) B dX1_takeBack_62 rfl rfl rfl cls1 1 (by decide) w111 rfl rfl rfl (Nat.le_of_ble_eq_true rfl) ((uq (Sy 75) 0 (14 - 1))) rfl ?_
          refine g_aload_n (q := 66) B dX1_takeBack_65 rfl 1 rfl ?_
          refine g_dup (q := 67) B dX1_takeBack_66 rfl rfl ?_
          refine g_get (n := 75) (ty := tyX1) (q := 70) (v := .int (iI (Sy 75 1))) B dX1_takeBack_67 rfl (us_eq _ _ _) rfl cls1 2 (by decide) w112 rfl ?_
          refine g_iconst (q := 71) B dX1_takeBack_70 rfl ?_
          refine g_isub (q := 72) B dX1_takeBack_71 rfl ?_
          refine g_put (n := 75) (ty := tyX1) (q := 75) B dX1_takeBack_72 rfl (us_eq _ _ _) rfl cls1 2 (by decide) w112 rfl rfl rfl (Nat.le_of_ble_eq_true rfl) ((uq ((uq (Sy 75) 0 (14 - 1))) 1 ((Sy 75 1) - 1))) rfl ?_
          refine g_eqS (us_us _ _ _ _) ?_
          refine g_vret B E dX1_takeBack_75 ?_
          have eL : hxL (S 75 0) = (14 - 1 : Int) := by unfold hxL; exact if_neg (by omega)
          refine ⟨rfl, ?_, ⟨?_, ?_⟩, fun m hm h => ?_⟩
          · rw [eL, ← hvSy]
            funext b
            unfold vw
            simp only [us_ne _ _ (show 4 * 0 ≠ 75 by decide), us_ne _ _ (show 4 * 0 + 1 ≠ 75 by decide), us_ne _ _ (show 4 * 0 + 2 ≠ 75 by decide), us_ne _ _ (show 4 * 0 + 3 ≠ 75 by decide)]
          · rw [eL]; rfl
          · rw [← e1]; rfl
          · simp only [us_ne _ _ hm]
            exact hfSy m (by omega)
        · exact absurd cq46 (by omega)
    · refine g_aload_n (q := 20) B dX1_takeBack_19 rfl 0 rfl ?_
      refine g_get (n := 75) (ty := tyX1) (q := 23) (v := .int (iI (S 75 0))) B dX1_takeBack_20 rfl rfl rfl cls1 1 (by decide) w111 rfl ?_
      refine g_iconst (q := 24) B dX1_takeBack_23 rfl ?_
      refine g_isub (q := 25) B dX1_takeBack_24 rfl ?_
      refine g_goto (q := 35) B dX1_takeBack_25 (by decide) ?_
      refine g_istore_n (q := 36) B dX1_takeBack_35 rfl (by decide) (L' := [(2, .int (iI ((S 75 0) - 1))), (0, .ref (yA Y 75)), (1, .ref (yA Y (4 * 0)))]) rfl ?_
      refine g_iload_n (q := 37) B dX1_takeBack_36 rfl 0 rfl ?_
      refine g_if_lt (t := 49) (q := 40) B dX1_takeBack_37 (by decide) rfl ⟨by omega, by omega⟩ (fun cq37 => ?_) (fun cq37 => ?_)
      · exact absurd cq37 (by omega)
      · refine g_iload_n (q := 41) B dX1_takeBack_40 rfl 0 rfl ?_
        refine g_aload_n (q := 42) B dX1_takeBack_41 rfl 1 rfl ?_
        refine g_get (n := 75) (ty := tyX1) (q := 45) (v := .ref (yA Y 76)) B dX1_takeBack_42 rfl rfl rfl cls1 0 (by decide) w110 rfl ?_
        refine g_alen (n := 76) (q := 46) B dX1_takeBack_45 rfl rfl rfl 4 rfl (z := 14) rfl ?_
        refine g_icmp_lt (t := 50) (q := 49) B dX1_takeBack_46 (by decide) rfl ⟨by omega, by omega⟩ ⟨by omega, by omega⟩ (fun cq46 => ?_) (fun cq46 => ?_)
        · refine g_aload_n (q := 51) B dX1_takeBack_50 rfl 2 rfl ?_
          refine g_aload_n (q := 52) B dX1_takeBack_51 rfl 1 rfl ?_
          refine g_get (n := 75) (ty := tyX1) (q := 55) (v := .ref (yA Y 76)) B dX1_takeBack_52 rfl rfl rfl cls1 0 (by decide) w110 rfl ?_
          refine g_iload_n (q := 56) B dX1_takeBack_55 rfl 0 rfl ?_
          refine g_aald (n := 76) (q := 57) B dX1_takeBack_56 rfl rfl rfl (by decide) (by omega) (by omega) (x := yA Y (4 * (4 + ((S 75 0) - 1 : Int).toNat))) rfl ?_
          refine g_callV (n := (4 * 0)) (ty := tyX2) (q := 60) (As := [.ref (yA Y (4 * (4 + ((S 75 0) - 1 : Int).toNat)))]) (st := []) B dX1_takeBack_57 rfl (c_X2_becomeLike (l := xL X) (S := S) (by decide) (by omega) (by omega)) eX2_becomeLike w634 (by decide) rfl (cw_N (by decide) (S ((4 * 0)))) cls2 rfl rfl (Nat.le_of_ble_eq_true rfl) (g_k0 (fun Sy hSy => ?_))
          obtain ⟨hvSy, hfSy⟩ := hSy
          have e75 : Sy 75 = S 75 := hfSy 75 (by omega)
          have e0 : Sy 75 0 = S 75 0 := congrFun e75 0
          have e1 : Sy 75 1 = S 75 1 := congrFun e75 1
          refine g_aload_n (q := 61) B dX1_takeBack_60 rfl 1 rfl ?_
          refine g_iload_n (q := 62) B dX1_takeBack_61 rfl 0 rfl ?_
          refine g_put (n := 75) (ty := tyX1) (q := 65) B dX1_takeBack_62 rfl rfl rfl cls1 1 (by decide) w111 rfl rfl rfl (Nat.le_of_ble_eq_true rfl) ((uq (Sy 75) 0 ((S 75 0) - 1))) rfl ?_
          refine g_aload_n (q := 66) B dX1_takeBack_65 rfl 1 rfl ?_
          refine g_dup (q := 67) B dX1_takeBack_66 rfl rfl ?_
          refine g_get (n := 75) (ty := tyX1) (q := 70) (v := .int (iI (Sy 75 1))) B dX1_takeBack_67 rfl (us_eq _ _ _) rfl cls1 2 (by decide) w112 rfl ?_
          refine g_iconst (q := 71) B dX1_takeBack_70 rfl ?_
          refine g_isub (q := 72) B dX1_takeBack_71 rfl ?_
          refine g_put (n := 75) (ty := tyX1) (q := 75) B dX1_takeBack_72 rfl (us_eq _ _ _) rfl cls1 2 (by decide) w112 rfl rfl rfl (Nat.le_of_ble_eq_true rfl) ((uq ((uq (Sy 75) 0 ((S 75 0) - 1))) 1 ((Sy 75 1) - 1))) rfl ?_
          refine g_eqS (us_us _ _ _ _) ?_
          refine g_vret B E dX1_takeBack_75 ?_
          have eL : hxL (S 75 0) = S 75 0 - 1 := by unfold hxL; exact if_pos (by omega)
          refine ⟨rfl, ?_, ⟨?_, ?_⟩, fun m hm h => ?_⟩
          · rw [eL, ← hvSy]
            funext b
            unfold vw
            simp only [us_ne _ _ (show 4 * 0 ≠ 75 by decide), us_ne _ _ (show 4 * 0 + 1 ≠ 75 by decide), us_ne _ _ (show 4 * 0 + 2 ≠ 75 by decide), us_ne _ _ (show 4 * 0 + 3 ≠ 75 by decide)]
          · rw [eL]; rfl
          · rw [← e1]; rfl
          · simp only [us_ne _ _ hm]
            exact hfSy m (by omega)
        · exact absurd cq46 (by omega)
set_option maxHeartbeats 4000000 in
theorem c_X4_moveJewels {Y : gY} {l : Launch} {S : SS} (q : Int) (hq : 0 ≤ q ∧ q < 2147483648) {i : Nat} (hi : i < 18) (hw : wf (vw S i)) : gM Y l mX4_moveJewels S [.int (iI q), .ref (yA Y (4 * i))] (p0 (fun S' => vw S' i = mvT (vw S i) q ∧ fr S S' i)) := by
  refine gM_of (by decide) (Nat.le_of_ble_eq_true rfl) ?_
  intro X hXl B E
  obtain ⟨⟨hn0, hn16⟩, ⟨hb0, hb1⟩, ⟨hm0, hm1⟩, ⟨hs0, hs1⟩, ⟨hc0, hc1⟩, hct, hkw, how, hun⟩ := wfS hw
  show gW Y X S 0 [(0, .int (iI q)), (1, .ref (yA Y (4 * i)))] []
  refine g_iload_n (q := 1) B dX4_moveJewels_0 rfl 0 rfl ?_
  refine g_bipush (q := 3) B dX4_moveJewels_1 rfl (by decide) ?_
  refine g_idiv (q := 4) B dX4_moveJewels_3 rfl (by omega) (by omega) (by omega) (by omega) ?_
  refine g_iconst (q := 5) B dX4_moveJewels_4 rfl ?_
  refine g_irem (q := 6) B dX4_moveJewels_5 rfl (by omega) (by omega) (by omega) (by omega) ?_
  refine g_if_ne (t := 21) (q := 9) B dX4_moveJewels_6 (by decide) rfl ⟨by omega, by omega⟩ (fun cq6 => ?_) (fun cq6 => ?_)
  · refine g_aload_n (q := 22) B dX4_moveJewels_21 rfl 1 rfl ?_
    refine g_iload_n (q := 23) B dX4_moveJewels_22 rfl 0 rfl ?_
    refine g_bipush (q := 25) B dX4_moveJewels_23 rfl (by decide) ?_
    refine g_irem (q := 26) B dX4_moveJewels_25 rfl (by omega) (by omega) (by omega) (by omega) ?_
    refine g_iload_n (q := 27) B dX4_moveJewels_26 rfl 0 rfl ?_
    refine g_bipush (q := 29) B dX4_moveJewels_27 rfl (by decide) ?_
    refine g_idiv (q := 30) B dX4_moveJewels_29 rfl (by omega) (by omega) (by omega) (by omega) ?_
    refine g_bipush (q := 32) B dX4_moveJewels_30 rfl (by decide) ?_
    refine g_irem (q := 33) B dX4_moveJewels_32 rfl (by omega) (by omega) (by omega) (by omega) ?_
    refine g_callV (n := (4 * i)) (ty := tyX2) (q := 36) (As := [.int (iI (q % 16)), .int (iI ((q / 64) % 16))]) (st := []) B dX4_moveJewels_33 rfl (c_X2_swapJewels (l := xL X) (S := S) hi hw (q % 16) ((q / 64) % 16) ⟨by omega, by omega⟩ ⟨by omega, by omega⟩) eX2_swapJewels w912 (by decide) rfl (cw_N hi (S ((4 * i)))) cls2 rfl rfl (Nat.le_of_ble_eq_true rfl) (g_kV (fun Sy hSy => ?_))
    obtain ⟨hvSy, hfSy⟩ := hSy
    refine g_pop (q := 37) B dX4_moveJewels_36 rfl rfl ?_
    refine g_vret B E dX4_moveJewels_37 ?_
    exact ⟨rfl, by rw [hvSy, mvT, if_neg (by omega)], hfSy⟩
  · refine g_aload_n (q := 10) B dX4_moveJewels_9 rfl 1 rfl ?_
    refine g_iload_n (q := 11) B dX4_moveJewels_10 rfl 0 rfl ?_
    refine g_bipush (q := 13) B dX4_moveJewels_11 rfl (by decide) ?_
    refine g_irem (q := 14) B dX4_moveJewels_13 rfl (by omega) (by omega) (by omega) (by omega) ?_
    refine g_callV (n := (4 * i)) (ty := tyX2) (q := 17) (As := [.int (iI (q % 16))]) (st := []) B dX4_moveJewels_14 rfl (c_X2_breakAhead (l := xL X) (S := S) hi hw (q % 16) ⟨by omega, by omega⟩) eX2_breakAhead w911 (by decide) rfl (cw_N hi (S ((4 * i)))) cls2 rfl rfl (Nat.le_of_ble_eq_true rfl) (g_kV (fun Sy hSy => ?_))
    obtain ⟨hvSy, hfSy⟩ := hSy
    refine g_pop (q := 18) B dX4_moveJewels_17 rfl rfl ?_
    refine g_goto (q := 37) B dX4_moveJewels_18 (by decide) ?_
    refine g_vret B E dX4_moveJewels_37 ?_
    exact ⟨rfl, by rw [hvSy, mvT, if_pos (by omega)], hfSy⟩
set_option maxHeartbeats 4000000 in
theorem c_X4_turn {Y : gY} {l : Launch} {S : SS} (r : Int) (hr : 0 ≤ r ∧ r < 2147483648) {i : Nat} (hi : i < 18) (hw : wf (vw S i)) : gM Y l mX4_turn S [.int (iI r), .ref (yA Y (4 * i))] (p0 (fun S' => vw S' i = tuT (vw S i) r ∧ fr S S' i)) := by
  refine gM_of (by decide) (Nat.le_of_ble_eq_true rfl) ?_
  intro X hXl B E
  obtain ⟨⟨hn0, hn16⟩, ⟨hb0, hb1⟩, ⟨hm0, hm1⟩, ⟨hs0, hs1⟩, ⟨hc0, hc1⟩, hct, hkw, how, hun⟩ := wfS hw
  show gW Y X S 0 [(0, .int (iI r)), (1, .ref (yA Y (4 * i)))] []
  refine g_iload_n (q := 1) B dX4_turn_0 rfl 0 rfl ?_
  refine g_bipush (q := 3) B dX4_turn_1 rfl (by decide) ?_
  refine g_idiv (q := 4) B dX4_turn_3 rfl (by omega) (by omega) (by omega) (by omega) ?_
  refine g_istore_n (q := 5) B dX4_turn_4 rfl (by decide) (L' := [(2, .int (iI (r / 16))), (0, .int (iI r)), (1, .ref (yA Y (4 * i)))]) rfl ?_
  refine g_iload_n (q := 6) B dX4_turn_5 rfl 1 rfl ?_
  refine g_bipush (q := 8) B dX4_turn_6 rfl (by decide) ?_
  refine g_irem (q := 9) B dX4_turn_8 rfl (by omega) (by omega) (by omega) (by omega) ?_
  refine g_istore_n (q := 10) B dX4_turn_9 rfl (by decide) (L' := [(3, .int (iI (r % 16))), (2, .int (iI (r / 16))), (0, .int (iI r)), (1, .ref (yA Y (4 * i)))]) rfl ?_
  refine g_iload_n (q := 11) B dX4_turn_10 rfl 0 rfl ?_
  refine g_iconst (q := 12) B dX4_turn_11 rfl ?_
  refine g_icmp_gt (t := 34) (q := 15) B dX4_turn_12 (by decide) rfl ⟨by omega, by omega⟩ ⟨by omega, by omega⟩ (fun cq12 => ?_) (fun cq12 => ?_)
  · refine g_iload_n (q := 35) B dX4_turn_34 rfl 0 rfl ?_
    refine g_bipush (q := 37) B dX4_turn_35 rfl (by decide) ?_
    refine g_icmp_gt (t := 68) (q := 40) B dX4_turn_37 (by decide) rfl ⟨by omega, by omega⟩ ⟨by omega, by omega⟩ (fun cq37 => ?_) (fun cq37 => ?_)
    · refine g_iload_n (q := 69) B dX4_turn_68 rfl 0 rfl ?_
      refine g_bipush (q := 71) B dX4_turn_69 rfl (by decide) ?_
      refine g_icmp_gt (t := 94) (q := 74) B dX4_turn_71 (by decide) rfl ⟨by omega, by omega⟩ ⟨by omega, by omega⟩ (fun cq71 => ?_) (fun cq71 => ?_)
      · refine g_iload_n (q := 95) B dX4_turn_94 rfl 0 rfl ?_
        refine g_bipush (q := 97) B dX4_turn_95 rfl (by decide) ?_
        refine g_icmp_gt (t := 112) (q := 100) B dX4_turn_97 (by decide) rfl ⟨by omega, by omega⟩ ⟨by omega, by omega⟩ (fun cq97 => ?_) (fun cq97 => ?_)
        · refine g_iload_n (q := 113) B dX4_turn_112 rfl 0 rfl ?_
          refine g_bipush (q := 115) B dX4_turn_113 rfl (by decide) ?_
          refine g_icmp_ne (t := 129) (q := 118) B dX4_turn_115 (by decide) rfl ⟨by omega, by omega⟩ ⟨by omega, by omega⟩ (fun cq115 => ?_) (fun cq115 => ?_)
          · refine g_iload_n (q := 130) B dX4_turn_129 rfl 0 rfl ?_
            refine g_bipush (q := 132) B dX4_turn_130 rfl (by decide) ?_
            refine g_icmp_ne (t := 143) (q := 135) B dX4_turn_132 (by decide) rfl ⟨by omega, by omega⟩ ⟨by omega, by omega⟩ (fun cq132 => ?_) (fun cq132 => ?_)
            · refine g_iload_n (q := 144) B dX4_turn_143 rfl 1 rfl ?_
              refine g_iconst (q := 145) B dX4_turn_144 rfl ?_
              refine g_idiv (q := 146) B dX4_turn_145 rfl (by omega) (by omega) (by omega) (by omega) ?_
              refine g_iconst (q := 147) B dX4_turn_146 rfl ?_
              refine g_irem (q := 148) B dX4_turn_147 rfl (by omega) (by omega) (by omega) (by omega) ?_
              refine g_if_ne (t := 162) (q := 151) B dX4_turn_148 (by decide) rfl ⟨by omega, by omega⟩ (fun cq148 => ?_) (fun cq148 => ?_)
              · refine g_aload_n (q := 163) B dX4_turn_162 rfl 3 rfl ?_
                refine g_callV (n := (4 * i)) (ty := tyX2) (q := 166) (As := []) (st := []) B dX4_turn_163 rfl (c_X2_reverseRing (l := xL X) (S := S) hi hw  ) eX2_reverseRing w914 (by decide) rfl (cw_N hi (S ((4 * i)))) cls2 rfl rfl (Nat.le_of_ble_eq_true rfl) (g_k0 (fun Sy hSy => ?_))
                obtain ⟨hvSy, hfSy⟩ := hSy
                refine g_vret B E dX4_turn_166 ?_
                refine ⟨rfl, ?_, hfSy⟩
                rw [hvSy, tuT, if_neg (by omega), if_neg (by omega), if_neg (by omega), if_neg (by omega), if_neg (by omega), if_neg (by omega), if_neg (by omega)]
              · refine g_aload_n (q := 152) B dX4_turn_151 rfl 3 rfl ?_
                refine g_iload_n (q := 153) B dX4_turn_152 rfl 1 rfl ?_
                refine g_iconst (q := 154) B dX4_turn_153 rfl ?_
                refine g_irem (q := 155) B dX4_turn_154 rfl (by omega) (by omega) (by omega) (by omega) ?_
                refine g_callV (n := (4 * i)) (ty := tyX2) (q := 158) (As := [.int (iI ((r / 16) % 2))]) (st := []) B dX4_turn_155 rfl (c_X2_chooseSetting (l := xL X) (S := S) hi  ((r / 16) % 2) ⟨by omega, by omega⟩) eX2_chooseSetting w913 (by decide) rfl (cw_N hi (S ((4 * i)))) cls2 rfl rfl (Nat.le_of_ble_eq_true rfl) (g_kV (fun Sy hSy => ?_))
                obtain ⟨hvSy, hfSy⟩ := hSy
                refine g_pop (q := 159) B dX4_turn_158 rfl rfl ?_
                refine g_goto (q := 166) B dX4_turn_159 (by decide) ?_
                refine g_vret B E dX4_turn_166 ?_
                refine ⟨rfl, ?_, hfSy⟩
                rw [hvSy, tuT, if_neg (by omega), if_neg (by omega), if_neg (by omega), if_neg (by omega), if_neg (by omega), if_neg (by omega), if_pos (by omega)]
            · refine g_iload_n (q := 136) B dX4_turn_135 rfl 1 rfl ?_
              refine g_aload_n (q := 137) B dX4_turn_136 rfl 3 rfl ?_
              refine g_callS (q := 140) (As := [.int (iI (r / 16)), .ref (yA Y (4 * i))]) (st := []) B dX4_turn_137 rfl (c_X4_moveJewels (l := xL X) (S := S) (r / 16) (by omega) hi hw) eX4_moveJewels w908 (by decide) rfl rfl (Nat.le_of_ble_eq_true rfl) (g_k0 (fun Sy hSy => ?_))
              obtain ⟨hvSy, hfSy⟩ := hSy
              refine g_goto (q := 166) B dX4_turn_140 (by decide) ?_
              refine g_vret B E dX4_turn_166 ?_
              refine ⟨rfl, ?_, hfSy⟩
              rw [hvSy, tuT, if_neg (by omega), if_neg (by omega), if_neg (by omega), if_neg (by omega), if_neg (by omega), if_pos (by omega)]
          · refine g_aload_n (q := 119) B dX4_turn_118 rfl 3 rfl ?_
            refine g_iload_n (q := 120) B dX4_turn_119 rfl 1 rfl ?_
            refine g_iconst (q := 121) B dX4_turn_120 rfl ?_
            refine g_irem (q := 122) B dX4_turn_121 rfl (by omega) (by omega) (by omega) (by omega) ?_
            refine g_callV (n := (4 * i)) (ty := tyX2) (q := 125) (As := [.int (iI ((r / 16) % 2))]) (st := []) B dX4_turn_122 rfl (c_X2_dealRuns (l := xL X) (S := S) hi hw ((r / 16) % 2) ⟨by omega, by omega⟩) eX2_dealRuns w907 (by decide) rfl (cw_N hi (S ((4 * i)))) cls2 rfl rfl (Nat.le_of_ble_eq_true rfl) (g_kV (fun Sy hSy => ?_))
            obtain ⟨hvSy, hfSy⟩ := hSy
            refine g_pop (q := 126) B dX4_turn_125 rfl rfl ?_
            refine g_goto (q := 166) B dX4_turn_126 (by decide) ?_
            refine g_vret B E dX4_turn_166 ?_
            refine ⟨rfl, ?_, hfSy⟩
            rw [hvSy, tuT, if_neg (by omega), if_neg (by omega), if_neg (by omega), if_neg (by omega), if_pos (by omega)]
        · refine g_aload_n (q := 101) B dX4_turn_100 rfl 3 rfl ?_
          refine g_iload_n (q := 102) B dX4_turn_101 rfl 1 rfl ?_
          refine g_bipush (q := 104) B dX4_turn_102 rfl (by decide) ?_
          refine g_irem (q := 105) B dX4_turn_104 rfl (by omega) (by omega) (by omega) (by omega) ?_
          refine g_callV (n := (4 * i)) (ty := tyX2) (q := 108) (As := [.int (iI ((r / 16) % 16))]) (st := []) B dX4_turn_105 rfl (c_X2_takeRun (l := xL X) (S := S) hi hw ((r / 16) % 16) ⟨by omega, by omega⟩) eX2_takeRun w906 (by decide) rfl (cw_N hi (S ((4 * i)))) cls2 rfl rfl (Nat.le_of_ble_eq_true rfl) (g_kV (fun Sy hSy => ?_))
          obtain ⟨hvSy, hfSy⟩ := hSy
          refine g_pop (q := 109) B dX4_turn_108 rfl rfl ?_
          refine g_goto (q := 166) B dX4_turn_109 (by decide) ?_
          refine g_vret B E dX4_turn_166 ?_
          refine ⟨rfl, ?_, hfSy⟩
          rw [hvSy, tuT, if_neg (by omega), if_neg (by omega), if_neg (by omega), if_pos (by omega)]
      · refine g_aload_n (q := 75) B dX4_turn_74 rfl 3 rfl ?_
        refine g_iload_n (q := 76) B dX4_turn_75 rfl 1 rfl ?_
        refine g_bipush (q := 78) B dX4_turn_76 rfl (by decide) ?_
        refine g_irem (q := 79) B dX4_turn_78 rfl (by omega) (by omega) (by omega) (by omega) ?_
        refine g_iload_n (q := 80) B dX4_turn_79 rfl 1 rfl ?_
        refine g_bipush (q := 82) B dX4_turn_80 rfl (by decide) ?_
        refine g_idiv (q := 83) B dX4_turn_82 rfl (by omega) (by omega) (by omega) (by omega) ?_
        refine g_iconst (q := 84) B dX4_turn_83 rfl ?_
        refine g_irem (q := 85) B dX4_turn_84 rfl (by omega) (by omega) (by omega) (by omega) ?_
        refine g_iconst (q := 86) B dX4_turn_85 rfl ?_
        refine g_isub (q := 87) B dX4_turn_86 rfl ?_
        refine g_callV (n := (4 * i)) (ty := tyX2) (q := 90) (As := [.int (iI ((r / 16) % 16)), .int (iI ((((r / 16) / 16) % 3) - 1))]) (st := []) B dX4_turn_87 rfl (c_X2_giveRun (l := xL X) (S := S) hi (wf.q hw) ((r / 16) % 16) ((((r / 16) / 16) % 3) - 1) ⟨by omega, by omega⟩ ⟨by omega, by omega⟩) eX2_giveRun w905 (by decide) rfl (cw_N hi (S ((4 * i)))) cls2 rfl rfl (Nat.le_of_ble_eq_true rfl) (g_kV (fun Sy hSy => ?_))
        obtain ⟨hvSy, hfSy⟩ := hSy
        refine g_pop (q := 91) B dX4_turn_90 rfl rfl ?_
        refine g_goto (q := 166) B dX4_turn_91 (by decide) ?_
        refine g_vret B E dX4_turn_166 ?_
        refine ⟨rfl, ?_, hfSy⟩
        rw [hvSy, tuT, if_neg (by omega), if_neg (by omega), if_pos (by omega)]
    · refine g_aload_n (q := 41) B dX4_turn_40 rfl 3 rfl ?_
      refine g_iconst (q := 42) B dX4_turn_41 rfl ?_
      refine g_iload_n (q := 43) B dX4_turn_42 rfl 1 rfl ?_
      refine g_bipush (q := 45) B dX4_turn_43 rfl (by decide) ?_
      refine g_irem (q := 46) B dX4_turn_45 rfl (by omega) (by omega) (by omega) (by omega) ?_
      refine g_iadd (q := 47) B dX4_turn_46 rfl ?_
      refine g_iload_n (q := 48) B dX4_turn_47 rfl 1 rfl ?_
      refine g_bipush (q := 50) B dX4_turn_48 rfl (by decide) ?_
      refine g_idiv (q := 51) B dX4_turn_50 rfl (by omega) (by omega) (by omega) (by omega) ?_
      refine g_iconst (q := 52) B dX4_turn_51 rfl ?_
      refine g_irem (q := 53) B dX4_turn_52 rfl (by omega) (by omega) (by omega) (by omega) ?_
      refine g_if_eq (t := 60) (q := 56) B dX4_turn_53 (by decide) rfl ⟨by omega, by omega⟩ (fun cq53 => ?_) (fun cq53 => ?_)
      · refine g_iconst (q := 61) B dX4_turn_60 rfl ?_
        refine g_callV (n := (4 * i)) (ty := tyX2) (q := 64) (As := [.int (iI (1 + ((r / 16) % 15))), .int (iI 0)]) (st := []) B dX4_turn_61 rfl (c_X2_setCut (l := xL X) (S := S) hi hw (1 + ((r / 16) % 15)) 0 ⟨by omega, by omega⟩ (by omega)) eX2_setCut w904 (by decide) rfl (cw_N hi (S ((4 * i)))) cls2 rfl rfl (Nat.le_of_ble_eq_true rfl) (g_kV (fun Sy hSy => ?_))
        obtain ⟨hvSy, hfSy⟩ := hSy
        refine g_pop (q := 65) B dX4_turn_64 rfl rfl ?_
        refine g_goto (q := 166) B dX4_turn_65 (by decide) ?_
        refine g_vret B E dX4_turn_166 ?_
        refine ⟨rfl, ?_, hfSy⟩
        rw [hvSy, tuT, if_neg (by omega), if_pos (by omega)]; rw [if_pos (by omega)]
      · refine g_iconst (q := 57) B dX4_turn_56 rfl ?_
        refine g_goto (q := 61) B dX4_turn_57 (by decide) ?_
        refine g_callV (n := (4 * i)) (ty := tyX2) (q := 64) (As := [.int (iI (1 + ((r / 16) % 15))), .int (iI 1)]) (st := []) B dX4_turn_61 rfl (c_X2_setCut (l := xL X) (S := S) hi hw (1 + ((r / 16) % 15)) 1 ⟨by omega, by omega⟩ (by omega)) eX2_setCut w904 (by decide) rfl (cw_N hi (S ((4 * i)))) cls2 rfl rfl (Nat.le_of_ble_eq_true rfl) (g_kV (fun Sy hSy => ?_))
        obtain ⟨hvSy, hfSy⟩ := hSy
        refine g_pop (q := 65) B dX4_turn_64 rfl rfl ?_
        refine g_goto (q := 166) B dX4_turn_65 (by decide) ?_
        refine g_vret B E dX4_turn_166 ?_
        refine ⟨rfl, ?_, hfSy⟩
        rw [hvSy, tuT, if_neg (by omega), if_pos (by omega)]; rw [if_neg (by omega)]
  · refine g_aload_n (q := 16) B dX4_turn_15 rfl 3 rfl ?_
    refine g_iload_n (q := 17) B dX4_turn_16 rfl 1 rfl ?_
    refine g_iconst (q := 18) B dX4_turn_17 rfl ?_
    refine g_irem (q := 19) B dX4_turn_18 rfl (by omega) (by omega) (by omega) (by omega) ?_
    refine g_iconst (q := 20) B dX4_turn_19 rfl ?_
    refine g_iload_n (q := 21) B dX4_turn_20 rfl 1 rfl ?_
    refine g_iconst (q := 22) B dX4_turn_21 rfl ?_
    refine g_idiv (q := 23) B dX4_turn_22 rfl (by omega) (by omega) (by omega) (by omega) ?_
    refine g_bipush (q := 25) B dX4_turn_23 rfl (by decide) ?_
    refine g_irem (q := 26) B dX4_turn_25 rfl (by omega) (by omega) (by omega) (by omega) ?_
    refine g_iadd (q := 27) B dX4_turn_26 rfl ?_
    refine g_callV (n := (4 * i)) (ty := tyX2) (q := 30) (As := [.int (iI ((r / 16) % 4)), .int (iI (1 + (((r / 16) / 4) % 9)))]) (st := []) B dX4_turn_27 rfl (c_X2_addJewel (l := xL X) (S := S) hi hw ((r / 16) % 4) (1 + (((r / 16) / 4) % 9)) ⟨by omega, by omega⟩ ⟨by omega, by omega⟩) eX2_addJewel w903 (by decide) rfl (cw_N hi (S ((4 * i)))) cls2 rfl rfl (Nat.le_of_ble_eq_true rfl) (g_kV (fun Sy hSy => ?_))
    obtain ⟨hvSy, hfSy⟩ := hSy
    refine g_pop (q := 31) B dX4_turn_30 rfl rfl ?_
    refine g_goto (q := 166) B dX4_turn_31 (by decide) ?_
    refine g_vret B E dX4_turn_166 ?_
    refine ⟨rfl, ?_, hfSy⟩
    rw [hvSy, tuT, if_pos (by omega)]
set_option maxHeartbeats 4000000 in
theorem c_X4_play {Y : gY} {l : Launch} {S : SS} (z : Int) (hz : rL z) (n : Int) (hn : 0 ≤ n ∧ n ≤ 60) {i : Nat} (hi : i < 18) (hw : wf (vw S i)) : gM Y l mX4_play S [.long (lI z), .int (iI n), .ref (yA Y (4 * i))] (p0 (fun S' => vw S' i = plT (vw S i) z n.toNat ∧ fr S S' i)) := by
  refine gM_of (by decide) (Nat.le_of_ble_eq_true rfl) ?_
  intro X hXl B E
  obtain ⟨⟨hn0, hn16⟩, ⟨hb0, hb1⟩, ⟨hm0, hm1⟩, ⟨hs0, hs1⟩, ⟨hc0, hc1⟩, hct, hkw, how, hun⟩ := wfS hw
  show gW Y X S 0 [(0, .long (lI z)), (2, .int (iI n)), (3, .ref (yA Y (4 * i)))] []
  have lp11 : ∀ (fu : Nat) (kx : Nat) (Sx : SS) (x4 x6 : Int) , x4 = (siX z kx) → x6 = ((kx : Int)) → (kx : Int) ≤ n → vw Sx i = plT (vw S i) z kx → fr S Sx i → 61 - kx < fu → gW Y X Sx 11 [(0, .long (lI z)), (2, .int (iI n)), (3, .ref (yA Y (4 * i))), (4, .long (lI x4)), (6, .int (iI x6))] [] := by
    intro fu
    induction fu with
    | zero =>
      intro kx Sx x4 x6 e_x4 e_x6 hk hv hf hfu
      exact absurd hfu (Nat.not_lt_zero _)
    | succ fu ih =>
      intro kx Sx x4 x6 e_x4 e_x6 hk hv hf hfu
      subst e_x4
      subst e_x6
      have hwx : wf (vw Sx i) := by rw [hv]; exact wf_plT hw z kx
      have hrn := rnd_in (siX z (kx + 1))
      refine g_iload (q := 13) B dX4_play_11 rfl 4 rfl ?_
      refine g_iload_n (q := 14) B dX4_play_13 rfl 1 rfl ?_
      refine g_icmp_ge (t := 45) (q := 17) B dX4_play_14 (by decide) rfl ⟨by omega, by omega⟩ ⟨by omega, by omega⟩ (fun cq14 => ?_) (fun cq14 => ?_)
      · refine g_vret B E dX4_play_45 ?_
        exact ⟨rfl, by rw [hv, show n.toNat = kx by omega], hf⟩
      · refine g_lload (q := 19) B dX4_play_17 rfl 3 rfl ?_
        refine g_ldc2 (z := 6364136223846793005) (q := 22) B dX4_play_19 rfl w898 (by decide) ?_
        refine g_lmul (q := 23) B dX4_play_22 rfl ?_
        refine g_ldc2 (z := 1442695040888963407) (q := 26) B dX4_play_23 rfl w899 (by decide) ?_
        refine g_ladd (q := 27) B dX4_play_26 rfl ?_
        refine g_lstore (q := 29) B dX4_play_27 rfl (by decide) (L' := [(4, .long (lI (((siX z kx) * 6364136223846793005) + 1442695040888963407))), (0, .long (lI z)), (2, .int (iI n)), (3, .ref (yA Y (4 * i))), (6, .int (iI ((kx : Int))))]) rfl ?_
        refine g_lload (q := 31) B dX4_play_29 rfl 0 rfl ?_
        refine g_bipush (q := 33) B dX4_play_31 rfl (by decide) ?_
        refine g_lushr (v := (lI (rnd (siX z (kx + 1))))) (q := 34) B dX4_play_33 rfl (lI_rnd _) ?_
        refine g_l2i (q := 35) B dX4_play_34 rfl ?_
        refine g_aload_n (q := 36) B dX4_play_35 rfl 3 rfl ?_
        refine g_callS (q := 39) (As := [.int (iI (rnd (siX z (kx + 1)))), .ref (yA Y (4 * i))]) (st := []) B dX4_play_36 rfl (c_X4_turn (l := xL X) (S := Sx) (rnd (siX z (kx + 1))) hrn hi hwx) eX4_turn w900 (by decide) rfl rfl (Nat.le_of_ble_eq_true rfl) (g_k0 (fun Sy hSy => ?_))
        obtain ⟨hvSy, hfSy⟩ := hSy
        refine g_iinc (n := 4) (q := 42) B dX4_play_39 rfl rfl (by decide) (L' := [(6, .int (iI ((kx : Int) + 1))), (4, .long (lI (((siX z kx) * 6364136223846793005) + 1442695040888963407))), (0, .long (lI z)), (2, .int (iI n)), (3, .ref (yA Y (4 * i)))]) rfl ?_
        refine g_goto (q := 11) B dX4_play_42 (by decide) ?_
        refine g_sub [2, 3, 4, 1, 0] rfl ?_
        exact ih (kx + 1) Sy _ _ (by rfl) (by first | rfl | omega) (by first | assumption | omega) (by rw [hvSy, hv]; rfl) (by exact hf.tr hfSy) (by omega)
  refine g_aload_n (q := 1) B dX4_play_0 rfl 2 rfl ?_
  refine g_ifnonnull (q := 5) B dX4_play_1 (by decide) ?_
  refine g_lload_n (q := 6) B dX4_play_5 rfl 0 rfl ?_
  refine g_lstore (q := 8) B dX4_play_6 rfl (by decide) (L' := [(4, .long (lI z)), (0, .long (lI z)), (2, .int (iI n)), (3, .ref (yA Y (4 * i)))]) rfl ?_
  refine g_iconst (q := 9) B dX4_play_8 rfl ?_
  refine g_istore (q := 11) B dX4_play_9 rfl (by decide) (L' := [(6, .int (iI 0)), (4, .long (lI z)), (0, .long (lI z)), (2, .int (iI n)), (3, .ref (yA Y (4 * i)))]) rfl ?_
  refine g_sub [2, 3, 4, 1, 0] rfl ?_
  exact lp11 _ 0 S _ _ (by rfl) (by first | rfl | omega) (by first | assumption | omega) (by rfl) (by exact fr.rf) (Nat.lt_succ_self _)
set_option maxHeartbeats 4000000 in
theorem c_X6_add {Y : gY} {l : Launch} {S : SS} (c : Int) (h0 : 0 ≤ c) (h1 : c < 65536) (hz : 0 ≤ S 73 0 ∧ S 73 0 < 120) : gM Y l mX6_add S [.ref (yA Y 73), .int (iI c)] (p0 (fun S' => S' = us (us S 74 (uq (S 74) (S 73 0) c)) 73 (uq (S 73) 0 (S 73 0 + 1)))) := by
  refine gM_of (by decide) (Nat.le_of_ble_eq_true rfl) ?_
  intro X hXl B E
  show gW Y X S 0 [(0, .ref (yA Y 73)), (1, .int (iI c))] []
  refine g_aload_n (q := 1) B dX6_add_0 rfl 0 rfl ?_
  refine g_get (n := 73) (ty := tyX6) (q := 4) (v := .int (iI (S 73 0))) B dX6_add_1 rfl rfl rfl cls4 1 (by decide) w51 rfl ?_
  refine g_if_lt (t := 39) (q := 7) B dX6_add_4 (by decide) rfl ⟨by omega, by omega⟩ (fun cq4 => ?_) (fun cq4 => ?_)
  · exact absurd cq4 (by omega)
  · refine g_aload_n (q := 8) B dX6_add_7 rfl 0 rfl ?_
    refine g_get (n := 73) (ty := tyX6) (q := 11) (v := .int (iI (S 73 0))) B dX6_add_8 rfl rfl rfl cls4 1 (by decide) w51 rfl ?_
    refine g_aload_n (q := 12) B dX6_add_11 rfl 0 rfl ?_
    refine g_get (n := 73) (ty := tyX6) (q := 15) (v := .ref (yA Y 74)) B dX6_add_12 rfl rfl rfl cls4 0 (by decide) w50 rfl ?_
    refine g_alen (n := 74) (q := 16) B dX6_add_15 rfl rfl rfl 1 rfl (z := 120) rfl ?_
    refine g_icmp_ge (t := 39) (q := 19) B dX6_add_16 (by decide) rfl ⟨by omega, by omega⟩ ⟨by omega, by omega⟩ (fun cq16 => ?_) (fun cq16 => ?_)
    · exact absurd cq16 (by omega)
    · refine g_aload_n (q := 20) B dX6_add_19 rfl 0 rfl ?_
      refine g_get (n := 73) (ty := tyX6) (q := 23) (v := .ref (yA Y 74)) B dX6_add_20 rfl rfl rfl cls4 0 (by decide) w50 rfl ?_
      refine g_aload_n (q := 24) B dX6_add_23 rfl 0 rfl ?_
      refine g_get (n := 73) (ty := tyX6) (q := 27) (v := .int (iI (S 73 0))) B dX6_add_24 rfl rfl rfl cls4 1 (by decide) w51 rfl ?_
      refine g_iload_n (q := 28) B dX6_add_27 rfl 1 rfl ?_
      refine g_cast (n := 74) (q := 29) B dX6_add_28 rfl rfl (fun _ => rfl) (by decide) (by omega) (by omega) (nz_c (by omega) (by omega)) ?_
      refine g_aload_n (q := 30) B dX6_add_29 rfl 0 rfl ?_
      refine g_dup (q := 31) B dX6_add_30 rfl rfl ?_
      refine g_get (n := 73) (ty := tyX6) (q := 34) (v := .int (iI (S 73 0))) B dX6_add_31 rfl ((us_ne _ _ (by omega)).trans rfl) rfl cls4 1 (by decide) w51 rfl ?_
      refine g_iconst (q := 35) B dX6_add_34 rfl ?_
      refine g_iadd (q := 36) B dX6_add_35 rfl ?_
      refine g_put (n := 73) (ty := tyX6) (q := 39) B dX6_add_36 rfl ((us_ne _ _ (by omega)).trans rfl) rfl cls4 1 (by decide) w51 rfl rfl rfl (Nat.le_of_ble_eq_true rfl) ((uq (S 73) 0 ((S 73 0) + 1))) rfl ?_
      refine g_vret B E dX6_add_39 ?_
      exact ⟨rfl, rfl⟩
set_option maxHeartbeats 4000000 in
theorem c_X6_signAt {Y : gY} {l : Launch} {S : SS} (hz : 0 ≤ S 73 0 ∧ S 73 0 ≤ 120) (ht : ∀ c : Int, 0 ≤ c → c < 120 → 0 ≤ S 74 c ∧ S 74 c ≤ 255) (i : Int) (h0 : 0 ≤ i) (h1 : i < 1000) : gM Y l mX6_signAt S [.ref (yA Y 73), .int (iI i)] (pV (.int (iI (sgF (S 74) (S 73 0) i))) (fun S' => S' = S)) := by
  refine gM_of (by decide) (Nat.le_of_ble_eq_true rfl) ?_
  intro X hXl B E
  have hti := ht i h0
  show gW Y X S 0 [(0, .ref (yA Y 73)), (1, .int (iI i))] []
  refine g_iload_n (q := 1) B dX6_signAt_0 rfl 1 rfl ?_
  refine g_if_lt (t := 30) (q := 4) B dX6_signAt_1 (by decide) rfl ⟨by omega, by omega⟩ (fun cq1 => ?_) (fun cq1 => ?_)
  · exact absurd cq1 (by omega)
  · refine g_iload_n (q := 5) B dX6_signAt_4 rfl 1 rfl ?_
    refine g_aload_n (q := 6) B dX6_signAt_5 rfl 0 rfl ?_
    refine g_get (n := 73) (ty := tyX6) (q := 9) (v := .int (iI (S 73 0))) B dX6_signAt_6 rfl rfl rfl cls4 1 (by decide) w51 rfl ?_
    refine g_icmp_ge (t := 30) (q := 12) B dX6_signAt_9 (by decide) rfl ⟨by omega, by omega⟩ ⟨by omega, by omega⟩ (fun cq9 => ?_) (fun cq9 => ?_)
    · refine g_iconst (q := 31) B dX6_signAt_30 rfl ?_
      refine g_zret B E dX6_signAt_31 rfl (by decide) ?_
      exact ⟨by rw [sgF, if_neg (by omega)], rfl⟩
    · refine g_iload_n (q := 13) B dX6_signAt_12 rfl 1 rfl ?_
      refine g_aload_n (q := 14) B dX6_signAt_13 rfl 0 rfl ?_
      refine g_get (n := 73) (ty := tyX6) (q := 17) (v := .ref (yA Y 74)) B dX6_signAt_14 rfl rfl rfl cls4 0 (by decide) w50 rfl ?_
      refine g_alen (n := 74) (q := 18) B dX6_signAt_17 rfl rfl rfl 1 rfl (z := 120) rfl ?_
      refine g_icmp_ge (t := 30) (q := 21) B dX6_signAt_18 (by decide) rfl ⟨by omega, by omega⟩ ⟨by omega, by omega⟩ (fun cq18 => ?_) (fun cq18 => ?_)
      · exact absurd cq18 (by omega)
      · refine g_aload_n (q := 22) B dX6_signAt_21 rfl 0 rfl ?_
        refine g_get (n := 73) (ty := tyX6) (q := 25) (v := .ref (yA Y 74)) B dX6_signAt_22 rfl rfl rfl cls4 0 (by decide) w50 rfl ?_
        refine g_iload_n (q := 26) B dX6_signAt_25 rfl 1 rfl ?_
        refine g_cald (n := 74) (q := 27) B dX6_signAt_26 rfl rfl rfl (by decide) (by omega) (by omega) ?_
        refine g_goto (q := 31) B dX6_signAt_27 (by decide) ?_
        refine g_zret B E dX6_signAt_31 rfl (nz_c (by omega) (by omega)) ?_
        exact ⟨by rw [sgF, if_pos (by omega)], rfl⟩
set_option maxHeartbeats 4000000 in
theorem c_X6_digitAt {Y : gY} {l : Launch} {S : SS} (hz : 0 ≤ S 73 0 ∧ S 73 0 ≤ 120) (ht : ∀ c : Int, 0 ≤ c → c < 120 → 0 ≤ S 74 c ∧ S 74 c ≤ 255) (i : Int) (h0 : 0 ≤ i) (h1 : i < 1000) : gM Y l mX6_digitAt S [.ref (yA Y 73), .int (iI i)] (pV (.int (iI (sgF (S 74) (S 73 0) i - 48))) (fun S' => S' = S)) := by
  refine gM_of (by decide) (Nat.le_of_ble_eq_true rfl) ?_
  intro X hXl B E
  show gW Y X S 0 [(0, .ref (yA Y 73)), (1, .int (iI i))] []
  refine g_aload_n (q := 1) B dX6_digitAt_0 rfl 0 rfl ?_
  refine g_iload_n (q := 2) B dX6_digitAt_1 rfl 1 rfl ?_
  refine g_callV (n := 73) (ty := tyX6) (q := 5) (As := [.int (iI i)]) (st := []) B dX6_digitAt_2 rfl (c_X6_signAt (l := xL X) (S := S) hz ht i (by omega) (by omega)) eX6_signAt w292 (by decide) rfl rfl cls4 rfl rfl (Nat.le_of_ble_eq_true rfl) (g_kE ?_)
  have := sgF_in (t := S 74) (z := S 73 0) (i := i) ht (by omega) (by omega)
  refine g_bipush (q := 7) B dX6_digitAt_5 rfl (by decide) ?_
  refine g_isub (q := 8) B dX6_digitAt_7 rfl ?_
  refine g_iret B E dX6_digitAt_8 ?_
  exact ⟨rfl, rfl⟩
set_option maxHeartbeats 4000000 in
theorem c_X6_numberAt {Y : gY} {l : Launch} {S : SS} (hz : 0 ≤ S 73 0 ∧ S 73 0 ≤ 120) (ht : ∀ c : Int, 0 ≤ c → c < 120 → 0 ≤ S 74 c ∧ S 74 c ≤ 255) (i : Int) (h0 : 0 ≤ i) (h1 : i < 900) : gM Y l mX6_numberAt S [.ref (yA Y 73), .int (iI i)] (pV (.int (iI (10 * (sgF (S 74) (S 73 0) i - 48) + (sgF (S 74) (S 73 0) (i + 1) - 48)))) (fun S' => S' = S)) := by
  refine gM_of (by decide) (Nat.le_of_ble_eq_true rfl) ?_
  intro X hXl B E
  show gW Y X S 0 [(0, .ref (yA Y 73)), (1, .int (iI i))] []
  refine g_bipush (q := 2) B dX6_numberAt_0 rfl (by decide) ?_
  refine g_aload_n (q := 3) B dX6_numberAt_2 rfl 0 rfl ?_
  refine g_iload_n (q := 4) B dX6_numberAt_3 rfl 1 rfl ?_
  refine g_callV (n := 73) (ty := tyX6) (q := 7) (As := [.int (iI i)]) (st := [.int (iI 10)]) B dX6_numberAt_4 rfl (c_X6_digitAt (l := xL X) (S := S) hz ht i (by omega) (by omega)) eX6_digitAt w381 (by decide) rfl rfl cls4 rfl rfl (Nat.le_of_ble_eq_true rfl) (g_kE ?_)
  have := sgF_in (t := S 74) (z := S 73 0) (i := i) ht (by omega) (by omega)
  refine g_imul (q := 8) B dX6_numberAt_7 rfl ?_
  refine g_aload_n (q := 9) B dX6_numberAt_8 rfl 0 rfl ?_
  refine g_iload_n (q := 10) B dX6_numberAt_9 rfl 1 rfl ?_
  refine g_iconst (q := 11) B dX6_numberAt_10 rfl ?_
  refine g_iadd (q := 12) B dX6_numberAt_11 rfl ?_
  refine g_callV (n := 73) (ty := tyX6) (q := 15) (As := [.int (iI (i + 1))]) (st := [.int (iI (10 * (sgF (S 74) (S 73 0) i - 48)))]) B dX6_numberAt_12 rfl (c_X6_digitAt (l := xL X) (S := S) hz ht (i + 1) (by omega) (by omega)) eX6_digitAt w381 (by decide) rfl rfl cls4 rfl rfl (Nat.le_of_ble_eq_true rfl) (g_kE ?_)
  have := sgF_in (t := S 74) (z := S 73 0) (i := i + 1) ht (by omega) (by omega)
  refine g_iadd (q := 16) B dX6_numberAt_15 rfl ?_
  refine g_iret B E dX6_numberAt_16 ?_
  exact ⟨rfl, rfl⟩
set_option maxHeartbeats 4000000 in
theorem c_X6_formOf {Y : gY} {l : Launch} {S : SS} (c : Int) (h0 : 0 ≤ c ∧ c < 65536) : gM Y l mX6_formOf S [.int (iI c)] (pV (fmR Y c) (fun S' => S' = S)) := by
  refine gM_of (by decide) (Nat.le_of_ble_eq_true rfl) ?_
  intro X hXl B E
  show gW Y X S 0 [(0, .int (iI c))] []
  refine g_iload_n (q := 1) B dX6_formOf_0 rfl 0 rfl ?_
  rcases (show c = 98 ∨ c = 99 ∨ c = 100 ∨ c = 103 ∨ c = 106 ∨ c = 109 ∨ c = 114 ∨ c = 115 ∨ c = 116 ∨ (c ≠ 98 ∧ c ≠ 99 ∧ c ≠ 100 ∧ c ≠ 103 ∧ c ≠ 106 ∧ c ≠ 109 ∧ c ≠ 114 ∧ c ≠ 115 ∧ c ≠ 116) by omega) with cq1 | cq1 | cq1 | cq1 | cq1 | cq1 | cq1 | cq1 | cq1 | cq1
  · refine g_tsIn (q := 95) B 98 dX6_formOf_1 cq1 ⟨by decide, by decide, by decide, by decide⟩ rfl (by decide) ?_
    refine g_ldcS 2 (by decide) (q := 97) B dX6_formOf_95 rfl ?_
    refine g_aret B E dX6_formOf_97 rfl (Or.inr ⟨_, rfl⟩) ?_
    have e : fmI c = 2 := by unfold fmI; (repeat' split) <;> omega
    exact ⟨by rw [fmR_r (by omega), e]; rfl, rfl⟩
  · refine g_tsIn (q := 98) B 99 dX6_formOf_1 cq1 ⟨by decide, by decide, by decide, by decide⟩ rfl (by decide) ?_
    refine g_ldcS 3 (by decide) (q := 100) B dX6_formOf_98 rfl ?_
    refine g_aret B E dX6_formOf_100 rfl (Or.inr ⟨_, rfl⟩) ?_
    have e : fmI c = 3 := by unfold fmI; (repeat' split) <;> omega
    exact ⟨by rw [fmR_r (by omega), e]; rfl, rfl⟩
  · refine g_tsIn (q := 110) B 100 dX6_formOf_1 cq1 ⟨by decide, by decide, by decide, by decide⟩ rfl (by decide) ?_
    refine g_ldcS 5 (by decide) (q := 112) B dX6_formOf_110 rfl ?_
    refine g_aret B E dX6_formOf_112 rfl (Or.inr ⟨_, rfl⟩) ?_
    have e : fmI c = 5 := by unfold fmI; (repeat' split) <;> omega
    exact ⟨by rw [fmR_r (by omega), e]; rfl, rfl⟩
  · refine g_tsIn (q := 104) B 103 dX6_formOf_1 cq1 ⟨by decide, by decide, by decide, by decide⟩ rfl (by decide) ?_
    refine g_ldcS 4 (by decide) (q := 106) B dX6_formOf_104 rfl ?_
    refine g_aret B E dX6_formOf_106 rfl (Or.inr ⟨_, rfl⟩) ?_
    have e : fmI c = 4 := by unfold fmI; (repeat' split) <;> omega
    exact ⟨by rw [fmR_r (by omega), e]; rfl, rfl⟩
  · refine g_tsIn (q := 92) B 106 dX6_formOf_1 cq1 ⟨by decide, by decide, by decide, by decide⟩ rfl (by decide) ?_
    refine g_ldcS 1 (by decide) (q := 94) B dX6_formOf_92 rfl ?_
    refine g_aret B E dX6_formOf_94 rfl (Or.inr ⟨_, rfl⟩) ?_
    have e : fmI c = 1 := by unfold fmI; (repeat' split) <;> omega
    exact ⟨by rw [fmR_r (by omega), e]; rfl, rfl⟩
  · refine g_tsIn (q := 101) B 109 dX6_formOf_1 cq1 ⟨by decide, by decide, by decide, by decide⟩ rfl (by decide) ?_
    refine g_ldcS 3 (by decide) (q := 103) B dX6_formOf_101 rfl ?_
    refine g_aret B E dX6_formOf_103 rfl (Or.inr ⟨_, rfl⟩) ?_
    have e : fmI c = 3 := by unfold fmI; (repeat' split) <;> omega
    exact ⟨by rw [fmR_r (by omega), e]; rfl, rfl⟩
  · refine g_tsIn (q := 116) B 114 dX6_formOf_1 cq1 ⟨by decide, by decide, by decide, by decide⟩ rfl (by decide) ?_
    refine g_ldcS 0 (by decide) (q := 118) B dX6_formOf_116 rfl ?_
    refine g_aret B E dX6_formOf_118 rfl (Or.inr ⟨_, rfl⟩) ?_
    have e : fmI c = 0 := by unfold fmI; (repeat' split) <;> omega
    exact ⟨by rw [fmR_r (by omega), e]; rfl, rfl⟩
  · refine g_tsIn (q := 113) B 115 dX6_formOf_1 cq1 ⟨by decide, by decide, by decide, by decide⟩ rfl (by decide) ?_
    refine g_ldcS 5 (by decide) (q := 115) B dX6_formOf_113 rfl ?_
    refine g_aret B E dX6_formOf_115 rfl (Or.inr ⟨_, rfl⟩) ?_
    have e : fmI c = 5 := by unfold fmI; (repeat' split) <;> omega
    exact ⟨by rw [fmR_r (by omega), e]; rfl, rfl⟩
  · refine g_tsIn (q := 107) B 116 dX6_formOf_1 cq1 ⟨by decide, by decide, by decide, by decide⟩ rfl (by decide) ?_
    refine g_ldcS 2 (by decide) (q := 109) B dX6_formOf_107 rfl ?_
    refine g_aret B E dX6_formOf_109 rfl (Or.inr ⟨_, rfl⟩) ?_
    have e : fmI c = 2 := by unfold fmI; (repeat' split) <;> omega
    exact ⟨by rw [fmR_r (by omega), e]; rfl, rfl⟩
  · by_cases ho : c < 98 ∨ 116 < c
    · refine g_tsOut (q := 119) B dX6_formOf_1 ho ⟨by omega, by omega⟩ (by decide) ?_
      refine g_null (q := 120) B dX6_formOf_119 rfl ?_
      refine g_aret B E dX6_formOf_120 rfl (Or.inl rfl) ?_
      have e : fmI c = -1 := by unfold fmI; (repeat' split) <;> omega
      exact ⟨by rw [fmR_n e], rfl⟩
    · rcases (show c = 101 ∨ c = 102 ∨ c = 104 ∨ c = 105 ∨ c = 107 ∨ c = 108 ∨ c = 110 ∨ c = 111 ∨ c = 112 ∨ c = 113 by omega) with ho | ho | ho | ho | ho | ho | ho | ho | ho | ho
      · refine g_tsIn (q := 119) B 101 dX6_formOf_1 ho ⟨by decide, by decide, by decide, by decide⟩ rfl (by decide) ?_
        refine g_null (q := 120) B dX6_formOf_119 rfl ?_
        refine g_aret B E dX6_formOf_120 rfl (Or.inl rfl) ?_
        have e : fmI c = -1 := by unfold fmI; (repeat' split) <;> omega
        exact ⟨by rw [fmR_n e], rfl⟩
      · refine g_tsIn (q := 119) B 102 dX6_formOf_1 ho ⟨by decide, by decide, by decide, by decide⟩ rfl (by decide) ?_
        refine g_null (q := 120) B dX6_formOf_119 rfl ?_
        refine g_aret B E dX6_formOf_120 rfl (Or.inl rfl) ?_
        have e : fmI c = -1 := by unfold fmI; (repeat' split) <;> omega
        exact ⟨by rw [fmR_n e], rfl⟩
      · refine g_tsIn (q := 119) B 104 dX6_formOf_1 ho ⟨by decide, by decide, by decide, by decide⟩ rfl (by decide) ?_
        refine g_null (q := 120) B dX6_formOf_119 rfl ?_
        refine g_aret B E dX6_formOf_120 rfl (Or.inl rfl) ?_
        have e : fmI c = -1 := by unfold fmI; (repeat' split) <;> omega
        exact ⟨by rw [fmR_n e], rfl⟩
      · refine g_tsIn (q := 119) B 105 dX6_formOf_1 ho ⟨by decide, by decide, by decide, by decide⟩ rfl (by decide) ?_
        refine g_null (q := 120) B dX6_formOf_119 rfl ?_
        refine g_aret B E dX6_formOf_120 rfl (Or.inl rfl) ?_
        have e : fmI c = -1 := by unfold fmI; (repeat' split) <;> omega
        exact ⟨by rw [fmR_n e], rfl⟩
      · refine g_tsIn (q := 119) B 107 dX6_formOf_1 ho ⟨by decide, by decide, by decide, by decide⟩ rfl (by decide) ?_
        refine g_null (q := 120) B dX6_formOf_119 rfl ?_
        refine g_aret B E dX6_formOf_120 rfl (Or.inl rfl) ?_
        have e : fmI c = -1 := by unfold fmI; (repeat' split) <;> omega
        exact ⟨by rw [fmR_n e], rfl⟩
      · refine g_tsIn (q := 119) B 108 dX6_formOf_1 ho ⟨by decide, by decide, by decide, by decide⟩ rfl (by decide) ?_
        refine g_null (q := 120) B dX6_formOf_119 rfl ?_
        refine g_aret B E dX6_formOf_120 rfl (Or.inl rfl) ?_
        have e : fmI c = -1 := by unfold fmI; (repeat' split) <;> omega
        exact ⟨by rw [fmR_n e], rfl⟩
      · refine g_tsIn (q := 119) B 110 dX6_formOf_1 ho ⟨by decide, by decide, by decide, by decide⟩ rfl (by decide) ?_
        refine g_null (q := 120) B dX6_formOf_119 rfl ?_
        refine g_aret B E dX6_formOf_120 rfl (Or.inl rfl) ?_
        have e : fmI c = -1 := by unfold fmI; (repeat' split) <;> omega
        exact ⟨by rw [fmR_n e], rfl⟩
      · refine g_tsIn (q := 119) B 111 dX6_formOf_1 ho ⟨by decide, by decide, by decide, by decide⟩ rfl (by decide) ?_
        refine g_null (q := 120) B dX6_formOf_119 rfl ?_
        refine g_aret B E dX6_formOf_120 rfl (Or.inl rfl) ?_
        have e : fmI c = -1 := by unfold fmI; (repeat' split) <;> omega
        exact ⟨by rw [fmR_n e], rfl⟩
      · refine g_tsIn (q := 119) B 112 dX6_formOf_1 ho ⟨by decide, by decide, by decide, by decide⟩ rfl (by decide) ?_
        refine g_null (q := 120) B dX6_formOf_119 rfl ?_
        refine g_aret B E dX6_formOf_120 rfl (Or.inl rfl) ?_
        have e : fmI c = -1 := by unfold fmI; (repeat' split) <;> omega
        exact ⟨by rw [fmR_n e], rfl⟩
      · refine g_tsIn (q := 119) B 113 dX6_formOf_1 ho ⟨by decide, by decide, by decide, by decide⟩ rfl (by decide) ?_
        refine g_null (q := 120) B dX6_formOf_119 rfl ?_
        refine g_aret B E dX6_formOf_120 rfl (Or.inl rfl) ?_
        have e : fmI c = -1 := by unfold fmI; (repeat' split) <;> omega
        exact ⟨by rw [fmR_n e], rfl⟩
set_option maxHeartbeats 4000000 in
theorem c_X6_fits {Y : gY} {l : Launch} {S : SS} (f s b : Int) (hf : 0 ≤ f ∧ f < 65536) (hs : 0 ≤ s ∧ s < 65536) (hb : 0 ≤ b ∧ b < 65536) : gM Y l mX6_fits S [.int (iI f), .int (iI s), .int (iI b)] (pV (.int (iI (fitF f s b))) (fun S' => S' = S)) := by
  refine gM_of (by decide) (Nat.le_of_ble_eq_true rfl) ?_
  intro X hXl B E
  show gW Y X S 0 [(0, .int (iI f)), (1, .int (iI s)), (2, .int (iI b))] []
  refine g_iload_n (q := 1) B dX6_fits_0 rfl 0 rfl ?_
  rcases (show f = 107 ∨ f = 111 ∨ f = 112 ∨ f = 117 ∨ f = 119 ∨ (f ≠ 107 ∧ f ≠ 111 ∧ f ≠ 112 ∧ f ≠ 117 ∧ f ≠ 119) by omega) with cq1 | cq1 | cq1 | cq1 | cq1 | cq1
  · refine g_tsIn (q := 68) B 107 dX6_fits_1 cq1 ⟨by decide, by decide, by decide, by decide⟩ rfl (by decide) ?_
    refine g_iload_n (q := 69) B dX6_fits_68 rfl 1 rfl ?_
    refine g_bipush (q := 71) B dX6_fits_69 rfl (by decide) ?_
    refine g_icmp_lt (t := 84) (q := 74) B dX6_fits_71 (by decide) rfl ⟨by omega, by omega⟩ ⟨by omega, by omega⟩ (fun cq71 => ?_) (fun cq71 => ?_)
    · refine g_iconst (q := 85) B dX6_fits_84 rfl ?_
      refine g_zret B E dX6_fits_85 rfl (by decide) ?_
      have e : fitF f s b = 0 := by unfold fitF; (repeat' split) <;> omega
      exact ⟨by rw [e], rfl⟩
    · refine g_iload_n (q := 75) B dX6_fits_74 rfl 1 rfl ?_
      refine g_bipush (q := 77) B dX6_fits_75 rfl (by decide) ?_
      refine g_icmp_gt (t := 84) (q := 80) B dX6_fits_77 (by decide) rfl ⟨by omega, by omega⟩ ⟨by omega, by omega⟩ (fun cq77 => ?_) (fun cq77 => ?_)
      · refine g_iconst (q := 85) B dX6_fits_84 rfl ?_
        refine g_zret B E dX6_fits_85 rfl (by decide) ?_
        have e : fitF f s b = 0 := by unfold fitF; (repeat' split) <;> omega
        exact ⟨by rw [e], rfl⟩
      · refine g_iconst (q := 81) B dX6_fits_80 rfl ?_
        refine g_goto (q := 85) B dX6_fits_81 (by decide) ?_
        refine g_zret B E dX6_fits_85 rfl (by decide) ?_
        have e : fitF f s b = 1 := by unfold fitF; (repeat' split) <;> omega
        exact ⟨by rw [e], rfl⟩
  · refine g_tsIn (q := 177) B 111 dX6_fits_1 cq1 ⟨by decide, by decide, by decide, by decide⟩ rfl (by decide) ?_
    refine g_iload_n (q := 178) B dX6_fits_177 rfl 1 rfl ?_
    refine g_bipush (q := 180) B dX6_fits_178 rfl (by decide) ?_
    refine g_icmp_lt (t := 193) (q := 183) B dX6_fits_180 (by decide) rfl ⟨by omega, by omega⟩ ⟨by omega, by omega⟩ (fun cq180 => ?_) (fun cq180 => ?_)
    · refine g_iconst (q := 194) B dX6_fits_193 rfl ?_
      refine g_zret B E dX6_fits_194 rfl (by decide) ?_
      have e : fitF f s b = 0 := by unfold fitF; (repeat' split) <;> omega
      exact ⟨by rw [e], rfl⟩
    · refine g_iload_n (q := 184) B dX6_fits_183 rfl 1 rfl ?_
      refine g_bipush (q := 186) B dX6_fits_184 rfl (by decide) ?_
      refine g_icmp_gt (t := 193) (q := 189) B dX6_fits_186 (by decide) rfl ⟨by omega, by omega⟩ ⟨by omega, by omega⟩ (fun cq186 => ?_) (fun cq186 => ?_)
      · refine g_iconst (q := 194) B dX6_fits_193 rfl ?_
        refine g_zret B E dX6_fits_194 rfl (by decide) ?_
        have e : fitF f s b = 0 := by unfold fitF; (repeat' split) <;> omega
        exact ⟨by rw [e], rfl⟩
      · refine g_iconst (q := 190) B dX6_fits_189 rfl ?_
        refine g_goto (q := 194) B dX6_fits_190 (by decide) ?_
        refine g_zret B E dX6_fits_194 rfl (by decide) ?_
        have e : fitF f s b = 1 := by unfold fitF; (repeat' split) <;> omega
        exact ⟨by rw [e], rfl⟩
  · refine g_tsIn (q := 133) B 112 dX6_fits_1 cq1 ⟨by decide, by decide, by decide, by decide⟩ rfl (by decide) ?_
    refine g_iload_n (q := 134) B dX6_fits_133 rfl 2 rfl ?_
    refine g_bipush (q := 136) B dX6_fits_134 rfl (by decide) ?_
    refine g_icmp_ne (t := 159) (q := 139) B dX6_fits_136 (by decide) rfl ⟨by omega, by omega⟩ ⟨by omega, by omega⟩ (fun cq136 => ?_) (fun cq136 => ?_)
    · refine g_iload_n (q := 160) B dX6_fits_159 rfl 1 rfl ?_
      refine g_bipush (q := 162) B dX6_fits_160 rfl (by decide) ?_
      refine g_icmp_lt (t := 175) (q := 165) B dX6_fits_162 (by decide) rfl ⟨by omega, by omega⟩ ⟨by omega, by omega⟩ (fun cq162 => ?_) (fun cq162 => ?_)
      · refine g_iconst (q := 176) B dX6_fits_175 rfl ?_
        refine g_zret B E dX6_fits_176 rfl (by decide) ?_
        have e : fitF f s b = 0 := by unfold fitF; (repeat' split) <;> omega
        exact ⟨by rw [e], rfl⟩
      · refine g_iload_n (q := 166) B dX6_fits_165 rfl 1 rfl ?_
        refine g_bipush (q := 168) B dX6_fits_166 rfl (by decide) ?_
        refine g_icmp_gt (t := 175) (q := 171) B dX6_fits_168 (by decide) rfl ⟨by omega, by omega⟩ ⟨by omega, by omega⟩ (fun cq168 => ?_) (fun cq168 => ?_)
        · refine g_iconst (q := 176) B dX6_fits_175 rfl ?_
          refine g_zret B E dX6_fits_176 rfl (by decide) ?_
          have e : fitF f s b = 0 := by unfold fitF; (repeat' split) <;> omega
          exact ⟨by rw [e], rfl⟩
        · refine g_iconst (q := 172) B dX6_fits_171 rfl ?_
          refine g_goto (q := 176) B dX6_fits_172 (by decide) ?_
          refine g_zret B E dX6_fits_176 rfl (by decide) ?_
          have e : fitF f s b = 1 := by unfold fitF; (repeat' split) <;> omega
          exact ⟨by rw [e], rfl⟩
    · refine g_iload_n (q := 140) B dX6_fits_139 rfl 1 rfl ?_
      refine g_bipush (q := 142) B dX6_fits_140 rfl (by decide) ?_
      refine g_icmp_lt (t := 155) (q := 145) B dX6_fits_142 (by decide) rfl ⟨by omega, by omega⟩ ⟨by omega, by omega⟩ (fun cq142 => ?_) (fun cq142 => ?_)
      · refine g_iconst (q := 156) B dX6_fits_155 rfl ?_
        refine g_goto (q := 176) B dX6_fits_156 (by decide) ?_
        refine g_zret B E dX6_fits_176 rfl (by decide) ?_
        have e : fitF f s b = 0 := by unfold fitF; (repeat' split) <;> omega
        exact ⟨by rw [e], rfl⟩
      · refine g_iload_n (q := 146) B dX6_fits_145 rfl 1 rfl ?_
        refine g_bipush (q := 148) B dX6_fits_146 rfl (by decide) ?_
        refine g_icmp_gt (t := 155) (q := 151) B dX6_fits_148 (by decide) rfl ⟨by omega, by omega⟩ ⟨by omega, by omega⟩ (fun cq148 => ?_) (fun cq148 => ?_)
        · refine g_iconst (q := 156) B dX6_fits_155 rfl ?_
          refine g_goto (q := 176) B dX6_fits_156 (by decide) ?_
          refine g_zret B E dX6_fits_176 rfl (by decide) ?_
          have e : fitF f s b = 0 := by unfold fitF; (repeat' split) <;> omega
          exact ⟨by rw [e], rfl⟩
        · refine g_iconst (q := 152) B dX6_fits_151 rfl ?_
          refine g_goto (q := 176) B dX6_fits_152 (by decide) ?_
          refine g_zret B E dX6_fits_176 rfl (by decide) ?_
          have e : fitF f s b = 1 := by unfold fitF; (repeat' split) <;> omega
          exact ⟨by rw [e], rfl⟩
  · refine g_tsIn (q := 104) B 117 dX6_fits_1 cq1 ⟨by decide, by decide, by decide, by decide⟩ rfl (by decide) ?_
    refine g_iload_n (q := 105) B dX6_fits_104 rfl 1 rfl ?_
    refine g_bipush (q := 107) B dX6_fits_105 rfl (by decide) ?_
    refine g_icmp_lt (t := 131) (q := 110) B dX6_fits_107 (by decide) rfl ⟨by omega, by omega⟩ ⟨by omega, by omega⟩ (fun cq107 => ?_) (fun cq107 => ?_)
    · refine g_iconst (q := 132) B dX6_fits_131 rfl ?_
      refine g_zret B E dX6_fits_132 rfl (by decide) ?_
      have e : fitF f s b = 0 := by unfold fitF; (repeat' split) <;> omega
      exact ⟨by rw [e], rfl⟩
    · refine g_iload_n (q := 111) B dX6_fits_110 rfl 1 rfl ?_
      refine g_iload_n (q := 112) B dX6_fits_111 rfl 2 rfl ?_
      refine g_bipush (q := 114) B dX6_fits_112 rfl (by decide) ?_
      refine g_icmp_ne (t := 122) (q := 117) B dX6_fits_114 (by decide) rfl ⟨by omega, by omega⟩ ⟨by omega, by omega⟩ (fun cq114 => ?_) (fun cq114 => ?_)
      · refine g_bipush (q := 124) B dX6_fits_122 rfl (by decide) ?_
        refine g_icmp_gt (t := 131) (q := 127) B dX6_fits_124 (by decide) rfl ⟨by omega, by omega⟩ ⟨by omega, by omega⟩ (fun cq124 => ?_) (fun cq124 => ?_)
        · refine g_iconst (q := 132) B dX6_fits_131 rfl ?_
          refine g_zret B E dX6_fits_132 rfl (by decide) ?_
          have e : fitF f s b = 0 := by unfold fitF; (repeat' split) <;> omega
          exact ⟨by rw [e], rfl⟩
        · refine g_iconst (q := 128) B dX6_fits_127 rfl ?_
          refine g_goto (q := 132) B dX6_fits_128 (by decide) ?_
          refine g_zret B E dX6_fits_132 rfl (by decide) ?_
          have e : fitF f s b = 1 := by unfold fitF; (repeat' split) <;> omega
          exact ⟨by rw [e], rfl⟩
      · refine g_bipush (q := 119) B dX6_fits_117 rfl (by decide) ?_
        refine g_goto (q := 124) B dX6_fits_119 (by decide) ?_
        refine g_icmp_gt (t := 131) (q := 127) B dX6_fits_124 (by decide) rfl ⟨by omega, by omega⟩ ⟨by omega, by omega⟩ (fun cq124 => ?_) (fun cq124 => ?_)
        · refine g_iconst (q := 132) B dX6_fits_131 rfl ?_
          refine g_zret B E dX6_fits_132 rfl (by decide) ?_
          have e : fitF f s b = 0 := by unfold fitF; (repeat' split) <;> omega
          exact ⟨by rw [e], rfl⟩
        · refine g_iconst (q := 128) B dX6_fits_127 rfl ?_
          refine g_goto (q := 132) B dX6_fits_128 (by decide) ?_
          refine g_zret B E dX6_fits_132 rfl (by decide) ?_
          have e : fitF f s b = 1 := by unfold fitF; (repeat' split) <;> omega
          exact ⟨by rw [e], rfl⟩
  · refine g_tsIn (q := 86) B 119 dX6_fits_1 cq1 ⟨by decide, by decide, by decide, by decide⟩ rfl (by decide) ?_
    refine g_iload_n (q := 87) B dX6_fits_86 rfl 1 rfl ?_
    refine g_bipush (q := 89) B dX6_fits_87 rfl (by decide) ?_
    refine g_icmp_lt (t := 102) (q := 92) B dX6_fits_89 (by decide) rfl ⟨by omega, by omega⟩ ⟨by omega, by omega⟩ (fun cq89 => ?_) (fun cq89 => ?_)
    · refine g_iconst (q := 103) B dX6_fits_102 rfl ?_
      refine g_zret B E dX6_fits_103 rfl (by decide) ?_
      have e : fitF f s b = 0 := by unfold fitF; (repeat' split) <;> omega
      exact ⟨by rw [e], rfl⟩
    · refine g_iload_n (q := 93) B dX6_fits_92 rfl 1 rfl ?_
      refine g_bipush (q := 95) B dX6_fits_93 rfl (by decide) ?_
      refine g_icmp_gt (t := 102) (q := 98) B dX6_fits_95 (by decide) rfl ⟨by omega, by omega⟩ ⟨by omega, by omega⟩ (fun cq95 => ?_) (fun cq95 => ?_)
      · refine g_iconst (q := 103) B dX6_fits_102 rfl ?_
        refine g_zret B E dX6_fits_103 rfl (by decide) ?_
        have e : fitF f s b = 0 := by unfold fitF; (repeat' split) <;> omega
        exact ⟨by rw [e], rfl⟩
      · refine g_iconst (q := 99) B dX6_fits_98 rfl ?_
        refine g_goto (q := 103) B dX6_fits_99 (by decide) ?_
        refine g_zret B E dX6_fits_103 rfl (by decide) ?_
        have e : fitF f s b = 1 := by unfold fitF; (repeat' split) <;> omega
        exact ⟨by rw [e], rfl⟩
  · by_cases ho : f < 107 ∨ 119 < f
    · refine g_tsOut (q := 195) B dX6_fits_1 ho ⟨by omega, by omega⟩ (by decide) ?_
      refine g_iload_n (q := 196) B dX6_fits_195 rfl 1 rfl ?_
      refine g_bipush (q := 198) B dX6_fits_196 rfl (by decide) ?_
      refine g_icmp_eq (t := 207) (q := 201) B dX6_fits_198 (by decide) rfl ⟨by omega, by omega⟩ ⟨by omega, by omega⟩ (fun cq198 => ?_) (fun cq198 => ?_)
      · refine g_iconst (q := 208) B dX6_fits_207 rfl ?_
        refine g_goto (q := 212) B dX6_fits_208 (by decide) ?_
        refine g_zret B E dX6_fits_212 rfl (by decide) ?_
        have e : fitF f s b = 1 := by unfold fitF; (repeat' split) <;> omega
        exact ⟨by rw [e], rfl⟩
      · refine g_iload_n (q := 202) B dX6_fits_201 rfl 1 rfl ?_
        refine g_bipush (q := 204) B dX6_fits_202 rfl (by decide) ?_
        refine g_icmp_ne (t := 211) (q := 207) B dX6_fits_204 (by decide) rfl ⟨by omega, by omega⟩ ⟨by omega, by omega⟩ (fun cq204 => ?_) (fun cq204 => ?_)
        · refine g_iconst (q := 212) B dX6_fits_211 rfl ?_
          refine g_zret B E dX6_fits_212 rfl (by decide) ?_
          have e : fitF f s b = 0 := by unfold fitF; (repeat' split) <;> omega
          exact ⟨by rw [e], rfl⟩
        · refine g_iconst (q := 208) B dX6_fits_207 rfl ?_
          refine g_goto (q := 212) B dX6_fits_208 (by decide) ?_
          refine g_zret B E dX6_fits_212 rfl (by decide) ?_
          have e : fitF f s b = 1 := by unfold fitF; (repeat' split) <;> omega
          exact ⟨by rw [e], rfl⟩
    · rcases (show f = 108 ∨ f = 109 ∨ f = 110 ∨ f = 113 ∨ f = 114 ∨ f = 115 ∨ f = 116 ∨ f = 118 by omega) with ho | ho | ho | ho | ho | ho | ho | ho
      · refine g_tsIn (q := 195) B 108 dX6_fits_1 ho ⟨by decide, by decide, by decide, by decide⟩ rfl (by decide) ?_
        refine g_iload_n (q := 196) B dX6_fits_195 rfl 1 rfl ?_
        refine g_bipush (q := 198) B dX6_fits_196 rfl (by decide) ?_
        refine g_icmp_eq (t := 207) (q := 201) B dX6_fits_198 (by decide) rfl ⟨by omega, by omega⟩ ⟨by omega, by omega⟩ (fun cq198 => ?_) (fun cq198 => ?_)
        · refine g_iconst (q := 208) B dX6_fits_207 rfl ?_
          refine g_goto (q := 212) B dX6_fits_208 (by decide) ?_
          refine g_zret B E dX6_fits_212 rfl (by decide) ?_
          have e : fitF f s b = 1 := by unfold fitF; (repeat' split) <;> omega
          exact ⟨by rw [e], rfl⟩
        · refine g_iload_n (q := 202) B dX6_fits_201 rfl 1 rfl ?_
          refine g_bipush (q := 204) B dX6_fits_202 rfl (by decide) ?_
          refine g_icmp_ne (t := 211) (q := 207) B dX6_fits_204 (by decide) rfl ⟨by omega, by omega⟩ ⟨by omega, by omega⟩ (fun cq204 => ?_) (fun cq204 => ?_)
          · refine g_iconst (q := 212) B dX6_fits_211 rfl ?_
            refine g_zret B E dX6_fits_212 rfl (by decide) ?_
            have e : fitF f s b = 0 := by unfold fitF; (repeat' split) <;> omega
            exact ⟨by rw [e], rfl⟩
          · refine g_iconst (q := 208) B dX6_fits_207 rfl ?_
            refine g_goto (q := 212) B dX6_fits_208 (by decide) ?_
            refine g_zret B E dX6_fits_212 rfl (by decide) ?_
            have e : fitF f s b = 1 := by unfold fitF; (repeat' split) <;> omega
            exact ⟨by rw [e], rfl⟩
      · refine g_tsIn (q := 195) B 109 dX6_fits_1 ho ⟨by decide, by decide, by decide, by decide⟩ rfl (by decide) ?_
        refine g_iload_n (q := 196) B dX6_fits_195 rfl 1 rfl ?_
        refine g_bipush (q := 198) B dX6_fits_196 rfl (by decide) ?_
        refine g_icmp_eq (t := 207) (q := 201) B dX6_fits_198 (by decide) rfl ⟨by omega, by omega⟩ ⟨by omega, by omega⟩ (fun cq198 => ?_) (fun cq198 => ?_)
        · refine g_iconst (q := 208) B dX6_fits_207 rfl ?_
          refine g_goto (q := 212) B dX6_fits_208 (by decide) ?_
          refine g_zret B E dX6_fits_212 rfl (by decide) ?_
          have e : fitF f s b = 1 := by unfold fitF; (repeat' split) <;> omega
          exact ⟨by rw [e], rfl⟩
        · refine g_iload_n (q := 202) B dX6_fits_201 rfl 1 rfl ?_
          refine g_bipush (q := 204) B dX6_fits_202 rfl (by decide) ?_
          refine g_icmp_ne (t := 211) (q := 207) B dX6_fits_204 (by decide) rfl ⟨by omega, by omega⟩ ⟨by omega, by omega⟩ (fun cq204 => ?_) (fun cq204 => ?_)
          · refine g_iconst (q := 212) B dX6_fits_211 rfl ?_
            refine g_zret B E dX6_fits_212 rfl (by decide) ?_
            have e : fitF f s b = 0 := by unfold fitF; (repeat' split) <;> omega
            exact ⟨by rw [e], rfl⟩
          · refine g_iconst (q := 208) B dX6_fits_207 rfl ?_
            refine g_goto (q := 212) B dX6_fits_208 (by decide) ?_
            refine g_zret B E dX6_fits_212 rfl (by decide) ?_
            have e : fitF f s b = 1 := by unfold fitF; (repeat' split) <;> omega
            exact ⟨by rw [e], rfl⟩
      · refine g_tsIn (q := 195) B 110 dX6_fits_1 ho ⟨by decide, by decide, by decide, by decide⟩ rfl (by decide) ?_
        refine g_iload_n (q := 196) B dX6_fits_195 rfl 1 rfl ?_
        refine g_bipush (q := 198) B dX6_fits_196 rfl (by decide) ?_
        refine g_icmp_eq (t := 207) (q := 201) B dX6_fits_198 (by decide) rfl ⟨by omega, by omega⟩ ⟨by omega, by omega⟩ (fun cq198 => ?_) (fun cq198 => ?_)
        · refine g_iconst (q := 208) B dX6_fits_207 rfl ?_
          refine g_goto (q := 212) B dX6_fits_208 (by decide) ?_
          refine g_zret B E dX6_fits_212 rfl (by decide) ?_
          have e : fitF f s b = 1 := by unfold fitF; (repeat' split) <;> omega
          exact ⟨by rw [e], rfl⟩
        · refine g_iload_n (q := 202) B dX6_fits_201 rfl 1 rfl ?_
          refine g_bipush (q := 204) B dX6_fits_202 rfl (by decide) ?_
          refine g_icmp_ne (t := 211) (q := 207) B dX6_fits_204 (by decide) rfl ⟨by omega, by omega⟩ ⟨by omega, by omega⟩ (fun cq204 => ?_) (fun cq204 => ?_)
          · refine g_iconst (q := 212) B dX6_fits_211 rfl ?_
            refine g_zret B E dX6_fits_212 rfl (by decide) ?_
            have e : fitF f s b = 0 := by unfold fitF; (repeat' split) <;> omega
            exact ⟨by rw [e], rfl⟩
          · refine g_iconst (q := 208) B dX6_fits_207 rfl ?_
            refine g_goto (q := 212) B dX6_fits_208 (by decide) ?_
            refine g_zret B E dX6_fits_212 rfl (by decide) ?_
            have e : fitF f s b = 1 := by unfold fitF; (repeat' split) <;> omega
            exact ⟨by rw [e], rfl⟩
      · refine g_tsIn (q := 195) B 113 dX6_fits_1 ho ⟨by decide, by decide, by decide, by decide⟩ rfl (by decide) ?_
        refine g_iload_n (q := 196) B dX6_fits_195 rfl 1 rfl ?_
        refine g_bipush (q := 198) B dX6_fits_196 rfl (by decide) ?_
        refine g_icmp_eq (t := 207) (q := 201) B dX6_fits_198 (by decide) rfl ⟨by omega, by omega⟩ ⟨by omega, by omega⟩ (fun cq198 => ?_) (fun cq198 => ?_)
        · refine g_iconst (q := 208) B dX6_fits_207 rfl ?_
          refine g_goto (q := 212) B dX6_fits_208 (by decide) ?_
          refine g_zret B E dX6_fits_212 rfl (by decide) ?_
          have e : fitF f s b = 1 := by unfold fitF; (repeat' split) <;> omega
          exact ⟨by rw [e], rfl⟩
        · refine g_iload_n (q := 202) B dX6_fits_201 rfl 1 rfl ?_
          refine g_bipush (q := 204) B dX6_fits_202 rfl (by decide) ?_
          refine g_icmp_ne (t := 211) (q := 207) B dX6_fits_204 (by decide) rfl ⟨by omega, by omega⟩ ⟨by omega, by omega⟩ (fun cq204 => ?_) (fun cq204 => ?_)
          · refine g_iconst (q := 212) B dX6_fits_211 rfl ?_
            refine g_zret B E dX6_fits_212 rfl (by decide) ?_
            have e : fitF f s b = 0 := by unfold fitF; (repeat' split) <;> omega
            exact ⟨by rw [e], rfl⟩
          · refine g_iconst (q := 208) B dX6_fits_207 rfl ?_
            refine g_goto (q := 212) B dX6_fits_208 (by decide) ?_
            refine g_zret B E dX6_fits_212 rfl (by decide) ?_
            have e : fitF f s b = 1 := by unfold fitF; (repeat' split) <;> omega
            exact ⟨by rw [e], rfl⟩
      · refine g_tsIn (q := 195) B 114 dX6_fits_1 ho ⟨by decide, by decide, by decide, by decide⟩ rfl (by decide) ?_
        refine g_iload_n (q := 196) B dX6_fits_195 rfl 1 rfl ?_
        refine g_bipush (q := 198) B dX6_fits_196 rfl (by decide) ?_
        refine g_icmp_eq (t := 207) (q := 201) B dX6_fits_198 (by decide) rfl ⟨by omega, by omega⟩ ⟨by omega, by omega⟩ (fun cq198 => ?_) (fun cq198 => ?_)
        · refine g_iconst (q := 208) B dX6_fits_207 rfl ?_
          refine g_goto (q := 212) B dX6_fits_208 (by decide) ?_
          refine g_zret B E dX6_fits_212 rfl (by decide) ?_
          have e : fitF f s b = 1 := by unfold fitF; (repeat' split) <;> omega
          exact ⟨by rw [e], rfl⟩
        · refine g_iload_n (q := 202) B dX6_fits_201 rfl 1 rfl ?_
          refine g_bipush (q := 204) B dX6_fits_202 rfl (by decide) ?_
          refine g_icmp_ne (t := 211) (q := 207) B dX6_fits_204 (by decide) rfl ⟨by omega, by omega⟩ ⟨by omega, by omega⟩ (fun cq204 => ?_) (fun cq204 => ?_)
          · refine g_iconst (q := 212) B dX6_fits_211 rfl ?_
            refine g_zret B E dX6_fits_212 rfl (by decide) ?_
            have e : fitF f s b = 0 := by unfold fitF; (repeat' split) <;> omega
            exact ⟨by rw [e], rfl⟩
          · refine g_iconst (q := 208) B dX6_fits_207 rfl ?_
            refine g_goto (q := 212) B dX6_fits_208 (by decide) ?_
            refine g_zret B E dX6_fits_212 rfl (by decide) ?_
            have e : fitF f s b = 1 := by unfold fitF; (repeat' split) <;> omega
            exact ⟨by rw [e], rfl⟩
      · refine g_tsIn (q := 195) B 115 dX6_fits_1 ho ⟨by decide, by decide, by decide, by decide⟩ rfl (by decide) ?_
        refine g_iload_n (q := 196) B dX6_fits_195 rfl 1 rfl ?_
        refine g_bipush (q := 198) B dX6_fits_196 rfl (by decide) ?_
        refine g_icmp_eq (t := 207) (q := 201) B dX6_fits_198 (by decide) rfl ⟨by omega, by omega⟩ ⟨by omega, by omega⟩ (fun cq198 => ?_) (fun cq198 => ?_)
        · refine g_iconst (q := 208) B dX6_fits_207 rfl ?_
          refine g_goto (q := 212) B dX6_fits_208 (by decide) ?_
          refine g_zret B E dX6_fits_212 rfl (by decide) ?_
          have e : fitF f s b = 1 := by unfold fitF; (repeat' split) <;> omega
          exact ⟨by rw [e], rfl⟩
        · refine g_iload_n (q := 202) B dX6_fits_201 rfl 1 rfl ?_
          refine g_bipush (q := 204) B dX6_fits_202 rfl (by decide) ?_
          refine g_icmp_ne (t := 211) (q := 207) B dX6_fits_204 (by decide) rfl ⟨by omega, by omega⟩ ⟨by omega, by omega⟩ (fun cq204 => ?_) (fun cq204 => ?_)
          · refine g_iconst (q := 212) B dX6_fits_211 rfl ?_
            refine g_zret B E dX6_fits_212 rfl (by decide) ?_
            have e : fitF f s b = 0 := by unfold fitF; (repeat' split) <;> omega
            exact ⟨by rw [e], rfl⟩
          · refine g_iconst (q := 208) B dX6_fits_207 rfl ?_
            refine g_goto (q := 212) B dX6_fits_208 (by decide) ?_
            refine g_zret B E dX6_fits_212 rfl (by decide) ?_
            have e : fitF f s b = 1 := by unfold fitF; (repeat' split) <;> omega
            exact ⟨by rw [e], rfl⟩
      · refine g_tsIn (q := 195) B 116 dX6_fits_1 ho ⟨by decide, by decide, by decide, by decide⟩ rfl (by decide) ?_
        refine g_iload_n (q := 196) B dX6_fits_195 rfl 1 rfl ?_
        refine g_bipush (q := 198) B dX6_fits_196 rfl (by decide) ?_
        refine g_icmp_eq (t := 207) (q := 201) B dX6_fits_198 (by decide) rfl ⟨by omega, by omega⟩ ⟨by omega, by omega⟩ (fun cq198 => ?_) (fun cq198 => ?_)
        · refine g_iconst (q := 208) B dX6_fits_207 rfl ?_
          refine g_goto (q := 212) B dX6_fits_208 (by decide) ?_
          refine g_zret B E dX6_fits_212 rfl (by decide) ?_
          have e : fitF f s b = 1 := by unfold fitF; (repeat' split) <;> omega
          exact ⟨by rw [e], rfl⟩
        · refine g_iload_n (q := 202) B dX6_fits_201 rfl 1 rfl ?_
          refine g_bipush (q := 204) B dX6_fits_202 rfl (by decide) ?_
          refine g_icmp_ne (t := 211) (q := 207) B dX6_fits_204 (by decide) rfl ⟨by omega, by omega⟩ ⟨by omega, by omega⟩ (fun cq204 => ?_) (fun cq204 => ?_)
          · refine g_iconst (q := 212) B dX6_fits_211 rfl ?_
            refine g_zret B E dX6_fits_212 rfl (by decide) ?_
            have e : fitF f s b = 0 := by unfold fitF; (repeat' split) <;> omega
            exact ⟨by rw [e], rfl⟩
          · refine g_iconst (q := 208) B dX6_fits_207 rfl ?_
            refine g_goto (q := 212) B dX6_fits_208 (by decide) ?_
            refine g_zret B E dX6_fits_212 rfl (by decide) ?_
            have e : fitF f s b = 1 := by unfold fitF; (repeat' split) <;> omega
            exact ⟨by rw [e], rfl⟩
      · refine g_tsIn (q := 195) B 118 dX6_fits_1 ho ⟨by decide, by decide, by decide, by decide⟩ rfl (by decide) ?_
        refine g_iload_n (q := 196) B dX6_fits_195 rfl 1 rfl ?_
        refine g_bipush (q := 198) B dX6_fits_196 rfl (by decide) ?_
        refine g_icmp_eq (t := 207) (q := 201) B dX6_fits_198 (by decide) rfl ⟨by omega, by omega⟩ ⟨by omega, by omega⟩ (fun cq198 => ?_) (fun cq198 => ?_)
        · refine g_iconst (q := 208) B dX6_fits_207 rfl ?_
          refine g_goto (q := 212) B dX6_fits_208 (by decide) ?_
          refine g_zret B E dX6_fits_212 rfl (by decide) ?_
          have e : fitF f s b = 1 := by unfold fitF; (repeat' split) <;> omega
          exact ⟨by rw [e], rfl⟩
        · refine g_iload_n (q := 202) B dX6_fits_201 rfl 1 rfl ?_
          refine g_bipush (q := 204) B dX6_fits_202 rfl (by decide) ?_
          refine g_icmp_ne (t := 211) (q := 207) B dX6_fits_204 (by decide) rfl ⟨by omega, by omega⟩ ⟨by omega, by omega⟩ (fun cq204 => ?_) (fun cq204 => ?_)
          · refine g_iconst (q := 212) B dX6_fits_211 rfl ?_
            refine g_zret B E dX6_fits_212 rfl (by decide) ?_
            have e : fitF f s b = 0 := by unfold fitF; (repeat' split) <;> omega
            exact ⟨by rw [e], rfl⟩
          · refine g_iconst (q := 208) B dX6_fits_207 rfl ?_
            refine g_goto (q := 212) B dX6_fits_208 (by decide) ?_
            refine g_zret B E dX6_fits_212 rfl (by decide) ?_
            have e : fitF f s b = 1 := by unfold fitF; (repeat' split) <;> omega
            exact ⟨by rw [e], rfl⟩
