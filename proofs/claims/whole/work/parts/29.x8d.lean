set_option maxHeartbeats 4000000 in
theorem c_X8_remember {Y : gY} {l : Launch} {S : SS} (ha : 0 ≤ S 82 2 ∧ S 82 2 ≤ 14) : gM Y l mX8_remember S [.ref (yA Y 82)] (p0 (fun S' => S' = rmU S)) := by
  refine gM_of (by decide) (Nat.le_of_ble_eq_true rfl) ?_
  intro X hXl B E
  show gW Y X S 0 [(0, .ref (yA Y 82))] []
  have lp49 : gW Y X (us (us S 86 (rmB (S 86) (S 82 2))) 82 ((uq (S 82) 2 (rmA (S 82 2))))) 49 [(0, .ref (yA Y 82))] [] := by
    have hra : 0 ≤ rmA (S 82 2) ∧ rmA (S 82 2) ≤ 13 := by unfold rmA; split <;> omega
    refine g_aload_n (q := 50) B dX8_remember_49 rfl 0 rfl ?_
    refine g_get (n := 82) (ty := tyX8) (q := 53) (v := .ref (yA Y 84)) B dX8_remember_50 rfl (us_eq _ _ _) rfl cls6 3 (by decide) w954 rfl ?_
    refine g_iconst (q := 54) B dX8_remember_53 rfl ?_
    refine g_aload_n (q := 55) B dX8_remember_54 rfl 0 rfl ?_
    refine g_get (n := 82) (ty := tyX8) (q := 58) (v := .ref (yA Y 86)) B dX8_remember_55 rfl (us_eq _ _ _) rfl cls6 5 (by decide) w956 rfl ?_
    refine g_bipush (q := 60) B dX8_remember_58 rfl (by decide) ?_
    refine g_aload_n (q := 61) B dX8_remember_60 rfl 0 rfl ?_
    refine g_get (n := 82) (ty := tyX8) (q := 64) (v := .int (iI (rmA (S 82 2)))) B dX8_remember_61 rfl (us_eq _ _ _) rfl cls6 6 (by decide) w957 rfl ?_
    refine g_imul (q := 65) B dX8_remember_64 rfl ?_
    refine g_callS (q := 68) (As := [.ref (yA Y 84), .int (iI 0), .ref (yA Y 86), .int (iI (54 * (rmA (S 82 2))))]) (st := []) B dX8_remember_65 rfl (c_X8_copyState (l := xL X) (S := (us (us S 86 (rmB (S 86) (S 82 2))) 82 ((uq (S 82) 2 (rmA (S 82 2)))))) (Or.inl ⟨rfl, rfl⟩) (Or.inr (Or.inr (Or.inl ⟨rfl, rfl⟩))) (by decide) 0 (54 * (rmA (S 82 2))) (by omega) (by omega) (by omega) (by omega)) eX8_copyState w1105 (by decide) rfl rfl (Nat.le_of_ble_eq_true rfl) (g_0E ?_)
    refine g_aload_n (q := 69) B dX8_remember_68 rfl 0 rfl ?_
    refine g_dup (q := 70) B dX8_remember_69 rfl rfl ?_
    refine g_get (n := 82) (ty := tyX8) (q := 73) (v := .int (iI (rmA (S 82 2)))) B dX8_remember_70 rfl ((us_ne _ _ (by omega)).trans (us_eq _ _ _)) rfl cls6 6 (by decide) w957 rfl ?_
    refine g_iconst (q := 74) B dX8_remember_73 rfl ?_
    refine g_iadd (q := 75) B dX8_remember_74 rfl ?_
    refine g_put (n := 82) (ty := tyX8) (q := 78) B dX8_remember_75 rfl ((us_ne _ _ (by omega)).trans (us_eq _ _ _)) rfl cls6 6 (by decide) w957 rfl rfl rfl (Nat.le_of_ble_eq_true rfl) ((uq ((uq (S 82) 2 (rmA (S 82 2)))) 2 ((rmA (S 82 2)) + 1))) rfl ?_
    refine g_vret B E dX8_remember_78 ?_
    refine ⟨rfl, ?_⟩
    show _ = rmU S
    rw [us_comm (us S 86 (rmB (S 86) (S 82 2))) _ _ (show 82 ≠ 86 by decide), us_us, us_us, uq_uq]
    rfl
  have lp11 : ∀ (fu : Nat) (k : Nat) (x1 : Int) , x1 = ((k : Int)) → k ≤ 702 → S 82 2 = 14 → 702 - k < fu → gW Y X (us S 86 (shD (S 86) k)) 11 [(0, .ref (yA Y 82)), (1, .int (iI x1))] [] := by
    intro fu
    induction fu with
    | zero =>
      intro k x1 e_x1 hk h14 hfu
      exact absurd hfu (Nat.not_lt_zero _)
    | succ fu ih =>
      intro k x1 e_x1 hk h14 hfu
      subst e_x1
      refine g_iload_n (q := 12) B dX8_remember_11 rfl 1 rfl ?_
      refine g_sipush (q := 15) B dX8_remember_12 rfl (by decide) ?_
      refine g_icmp_ge (t := 39) (q := 18) B dX8_remember_15 (by decide) rfl ⟨by omega, by omega⟩ ⟨by omega, by omega⟩ (fun cq15 => ?_) (fun cq15 => ?_)
      · refine g_aload_n (q := 40) B dX8_remember_39 rfl 0 rfl ?_
        refine g_dup (q := 41) B dX8_remember_40 rfl rfl ?_
        refine g_get (n := 82) (ty := tyX8) (q := 44) (v := .int (iI (S 82 2))) B dX8_remember_41 rfl ((us_ne _ _ (by omega)).trans rfl) rfl cls6 6 (by decide) w957 rfl ?_
        refine g_iconst (q := 45) B dX8_remember_44 rfl ?_
        refine g_isub (q := 46) B dX8_remember_45 rfl ?_
        refine g_put (n := 82) (ty := tyX8) (q := 49) B dX8_remember_46 rfl ((us_ne _ _ (by omega)).trans rfl) rfl cls6 6 (by decide) w957 rfl rfl rfl (Nat.le_of_ble_eq_true rfl) ((uq (S 82) 2 ((S 82 2) - 1))) rfl ?_
        refine g_sub [0] rfl ?_
        refine g_eqS ((show us (us S 86 (shD (S 86) k)) 82 (uq (S 82) 2 (S 82 2 - 1)) = us (us S 86 (rmB (S 86) (S 82 2))) 82 (uq (S 82) 2 (rmA (S 82 2))) by rw [rmB, if_pos h14, rmA, if_pos h14, h14, show k = 702 by omega]; rfl)) ?_
        exact lp49 
      · refine g_aload_n (q := 19) B dX8_remember_18 rfl 0 rfl ?_
        refine g_get (n := 82) (ty := tyX8) (q := 22) (v := .ref (yA Y 86)) B dX8_remember_19 rfl ((us_ne _ _ (by omega)).trans rfl) rfl cls6 5 (by decide) w956 rfl ?_
        refine g_iload_n (q := 23) B dX8_remember_22 rfl 1 rfl ?_
        refine g_aload_n (q := 24) B dX8_remember_23 rfl 0 rfl ?_
        refine g_get (n := 82) (ty := tyX8) (q := 27) (v := .ref (yA Y 86)) B dX8_remember_24 rfl ((us_ne _ _ (by omega)).trans rfl) rfl cls6 5 (by decide) w956 rfl ?_
        refine g_iload_n (q := 28) B dX8_remember_27 rfl 1 rfl ?_
        refine g_bipush (q := 30) B dX8_remember_28 rfl (by decide) ?_
        refine g_iadd (q := 31) B dX8_remember_30 rfl ?_
        refine g_iald (n := 86) (q := 32) B dX8_remember_31 rfl (us_eq _ _ _) rfl (by decide) (by omega) (by omega) ?_
        refine g_iast (n := 86) (q := 33) B dX8_remember_32 rfl (us_eq _ _ _) (fun _ => rfl) (by decide) (by omega) (by omega) ?_
        refine g_eqS (us_us _ _ _ _) ?_
        refine g_iinc (n := 1) (q := 36) B dX8_remember_33 rfl rfl (by decide) (L' := [(1, .int (iI ((k : Int) + 1))), (0, .ref (yA Y 82))]) rfl ?_
        refine g_goto (q := 11) B dX8_remember_36 (by decide) ?_
        refine g_sub [1, 0] rfl ?_
        refine g_eqS ((show us S 86 (uq (shD (S 86) k) k (shD (S 86) k (k + 54))) = us S 86 (shD (S 86) (k + 1)) by rw [shD_s])) ?_
        exact ih (k + 1) _ (by first | rfl | omega) (by first | assumption | omega) (by first | assumption | omega) (by omega)
  refine g_aload_n (q := 1) B dX8_remember_0 rfl 0 rfl ?_
  refine g_get (n := 82) (ty := tyX8) (q := 4) (v := .int (iI (S 82 2))) B dX8_remember_1 rfl rfl rfl cls6 6 (by decide) w957 rfl ?_
  refine g_bipush (q := 6) B dX8_remember_4 rfl (by decide) ?_
  refine g_icmp_ne (t := 49) (q := 9) B dX8_remember_6 (by decide) rfl ⟨by omega, by omega⟩ ⟨by omega, by omega⟩ (fun cq6 => ?_) (fun cq6 => ?_)
  · refine g_eqS ((show S = us (us S 86 (rmB (S 86) (S 82 2))) 82 (uq (S 82) 2 (rmA (S 82 2))) by rw [rmB, if_neg cq6, rmA, if_neg cq6, uq_self, us_id]; exact (us_id S 82).symm)) ?_
    exact lp49 
  · refine g_iconst (q := 10) B dX8_remember_9 rfl ?_
    refine g_istore_n (q := 11) B dX8_remember_10 rfl (by decide) (L' := [(1, .int (iI 0)), (0, .ref (yA Y 82))]) rfl ?_
    refine g_sub [1, 0] rfl ?_
    refine g_eqS ((show S = us S 86 (shD (S 86) 0) by rw [shD_0, us_id])) ?_
    exact lp11 _ 0 _ (by first | rfl | omega) (by first | assumption | omega) (by first | assumption | omega) (Nat.lt_succ_self _)
set_option maxHeartbeats 4000000 in
theorem c_X8_jewel {Y : gY} {l : Launch} {S : SS} (hw : wf (mw S 84)) (ha : 0 ≤ S 82 2 ∧ S 82 2 ≤ 14) (k : Int) (hk : rI k) (u : Int) (hu : rI u) : gM Y l mX8_jewel S [.ref (yA Y 82), .int (iI k), .int (iI u)] (pX S (cd_jewel (mw S 84) k u) (S 84 0) (addF (mw S 84) k u)) := by
  refine gM_of (by decide) (Nat.le_of_ble_eq_true rfl) ?_
  intro X hXl B E
  obtain ⟨⟨hn0, hn16⟩, ⟨hb0, hb1⟩, ⟨hm0, hm1⟩, ⟨hs0, hs1⟩, ⟨hc0, hc1⟩, hct, hkw, how⟩ := wfT hw
  obtain ⟨hk0, hk1⟩ := hk
  obtain ⟨hu0, hu1⟩ := hu
  have m0 : mw S 84 0 = S 84 0 := rfl
  show gW Y X S 0 [(0, .ref (yA Y 82)), (1, .int (iI k)), (2, .int (iI u))] []
  refine g_aload_n (q := 1) B dX8_jewel_0 rfl 0 rfl ?_
  refine g_iload_n (q := 2) B dX8_jewel_1 rfl 1 rfl ?_
  refine g_i2l (q := 3) B dX8_jewel_2 rfl ⟨by omega, by omega⟩ ?_
  refine g_lconst (z := 0) (q := 4) B dX8_jewel_3 rfl rfl ?_
  refine g_ldc2 (z := 3) (q := 7) B dX8_jewel_4 rfl w1028 (by decide) ?_
  refine g_callS (q := 10) (As := [.long (lI k), .long (lI 0), .long (lI 3)]) (st := [.ref (yA Y 82)]) B dX8_jewel_7 rfl (c_X8_in (l := xL X) (S := S) k 0 3 ⟨by omega, by omega⟩ ⟨by omega, by omega⟩ ⟨by omega, by omega⟩) eX8_in w1001 (by decide) rfl rfl (Nat.le_of_ble_eq_true rfl) (g_kE ?_)
  refine g_ifb_ne (t := 17) (q := 13) B dX8_jewel_10 (by decide) rfl (fun cq10 => ?_) (fun cq10 => ?_)
  · refine g_iload_n (q := 18) B dX8_jewel_17 rfl 2 rfl ?_
    refine g_i2l (q := 19) B dX8_jewel_18 rfl ⟨by omega, by omega⟩ ?_
    refine g_lconst (z := 1) (q := 20) B dX8_jewel_19 rfl rfl ?_
    refine g_ldc2 (z := 9) (q := 23) B dX8_jewel_20 rfl w1033 (by decide) ?_
    refine g_callS (q := 26) (As := [.long (lI u), .long (lI 1), .long (lI 9)]) (st := [.ref (yA Y 82)]) B dX8_jewel_23 rfl (c_X8_in (l := xL X) (S := S) u 1 9 ⟨by omega, by omega⟩ ⟨by omega, by omega⟩ ⟨by omega, by omega⟩) eX8_in w1001 (by decide) rfl rfl (Nat.le_of_ble_eq_true rfl) (g_kE ?_)
    refine g_ifb_ne (t := 33) (q := 29) B dX8_jewel_26 (by decide) rfl (fun cq26 => ?_) (fun cq26 => ?_)
    · refine g_aload_n (q := 34) B dX8_jewel_33 rfl 0 rfl ?_
      refine g_get (n := 82) (ty := tyX8) (q := 37) (v := .ref (yA Y 84)) B dX8_jewel_34 rfl rfl rfl cls6 3 (by decide) w954 rfl ?_
      refine g_iconst (q := 38) B dX8_jewel_37 rfl ?_
      refine g_iald (n := 84) (q := 39) B dX8_jewel_38 rfl rfl rfl (by decide) (by omega) (by omega) ?_
      refine g_bipush (q := 41) B dX8_jewel_39 rfl (by decide) ?_
      refine g_icmp_ge (t := 48) (q := 44) B dX8_jewel_41 (by decide) rfl ⟨by omega, by omega⟩ ⟨by omega, by omega⟩ (fun cq41 => ?_) (fun cq41 => ?_)
      · refine g_iconst (q := 49) B dX8_jewel_48 rfl ?_
        refine g_callV (n := 82) (ty := tyX8) (q := 52) (As := [.int (iI 3)]) (st := []) B dX8_jewel_49 rfl (c_X8_refused (l := xL X) (S := S) 3 ⟨by omega, by omega⟩) eX8_refused w1004 (by decide) rfl rfl cls6 rfl rfl (Nat.le_of_ble_eq_true rfl) (g_kE ?_)
        have hwz : wf (mw (us S 82 ((uq (S 82) 0 3))) 84) := by rw [us82_84]; exact hw
        have e84_0 : (us S 82 ((uq (S 82) 0 3))) 84 0 = S 84 0 := rfl
        have e84_r : runsF (mw (us S 82 ((uq (S 82) 0 3))) 84) = runsF (mw S 84) := rfl
        refine g_ifb_eq (t := 57) (q := 55) B dX8_jewel_52 (by decide) rfl (fun cq52 => ?_) (fun cq52 => ?_)
        · exact absurd cq52 (by decide)
        · refine g_iconst (q := 56) B dX8_jewel_55 rfl ?_
          refine g_iret B E dX8_jewel_56 ?_
          exact pX_n 3 (by rw [cd_jewel]; (repeat' split) <;> omega) (by decide)
      · refine g_iconst (q := 45) B dX8_jewel_44 rfl ?_
        refine g_goto (q := 49) B dX8_jewel_45 (by decide) ?_
        refine g_callV (n := 82) (ty := tyX8) (q := 52) (As := [.int (iI 0)]) (st := []) B dX8_jewel_49 rfl (c_X8_refused (l := xL X) (S := S) 0 ⟨by omega, by omega⟩) eX8_refused w1004 (by decide) rfl rfl cls6 rfl rfl (Nat.le_of_ble_eq_true rfl) (g_kE ?_)
        have hwz : wf (mw (us S 82 ((uq (S 82) 0 0))) 84) := by rw [us82_84]; exact hw
        have e84_0 : (us S 82 ((uq (S 82) 0 0))) 84 0 = S 84 0 := rfl
        have e84_r : runsF (mw (us S 82 ((uq (S 82) 0 0))) 84) = runsF (mw S 84) := rfl
        refine g_ifb_eq (t := 57) (q := 55) B dX8_jewel_52 (by decide) rfl (fun cq52 => ?_) (fun cq52 => ?_)
        · refine g_aload_n (q := 58) B dX8_jewel_57 rfl 0 rfl ?_
          refine g_callV (n := 82) (ty := tyX8) (q := 61) (As := []) (st := []) B dX8_jewel_58 rfl (c_X8_remember (l := xL X) (S := (us S 82 ((uq (S 82) 0 0)))) ha) eX8_remember w1142 (by decide) (us_eq _ _ _) rfl cls6 rfl rfl (Nat.le_of_ble_eq_true rfl) (g_0E ?_)
          have hwy : wf (mw (rmU (us S 82 (uq (S 82) 0 0))) 84) := hw
          have e84_y : (rmU (us S 82 (uq (S 82) 0 0))) 84 0 = S 84 0 := rfl
          have e84_y1 : runsF (mw (rmU (us S 82 (uq (S 82) 0 0))) 84) = runsF (mw S 84) := rfl
          refine g_aload_n (q := 62) B dX8_jewel_61 rfl 0 rfl ?_
          refine g_get (n := 82) (ty := tyX8) (q := 65) (v := .ref (yA Y 84)) B dX8_jewel_62 rfl rfl rfl cls6 3 (by decide) w954 rfl ?_
          refine g_iload_n (q := 66) B dX8_jewel_65 rfl 1 rfl ?_
          refine g_iload_n (q := 67) B dX8_jewel_66 rfl 2 rfl ?_
          refine g_callS (q := 70) (As := [.ref (yA Y 84), .int (iI k), .int (iI u)]) (st := []) B dX8_jewel_67 rfl (c_X8_jewelOn (l := xL X) (S := (rmU (us S 82 ((uq (S 82) 0 0))))) (Or.inl rfl) hwy k u (by omega)) eX8_jewelOn w1034 (by decide) rfl rfl (Nat.le_of_ble_eq_true rfl) (g_kV (fun Sy hSy => ?_))
          obtain ⟨hvSy, hfSy⟩ := hSy
          refine g_iret B E dX8_jewel_70 ?_
          exact pX_0 (by rw [cd_jewel]; (repeat' split) <;> omega) (by first | rfl | simp only [rmU_84, us82_84]) hvSy hfSy
        · exact absurd cq52 (by decide)
    · refine g_iconst (q := 30) B dX8_jewel_29 rfl ?_
      refine g_goto (q := 49) B dX8_jewel_30 (by decide) ?_
      refine g_callV (n := 82) (ty := tyX8) (q := 52) (As := [.int (iI 2)]) (st := []) B dX8_jewel_49 rfl (c_X8_refused (l := xL X) (S := S) 2 ⟨by omega, by omega⟩) eX8_refused w1004 (by decide) rfl rfl cls6 rfl rfl (Nat.le_of_ble_eq_true rfl) (g_kE ?_)
      have hwz : wf (mw (us S 82 ((uq (S 82) 0 2))) 84) := by rw [us82_84]; exact hw
      have e84_0 : (us S 82 ((uq (S 82) 0 2))) 84 0 = S 84 0 := rfl
      have e84_r : runsF (mw (us S 82 ((uq (S 82) 0 2))) 84) = runsF (mw S 84) := rfl
      refine g_ifb_eq (t := 57) (q := 55) B dX8_jewel_52 (by decide) rfl (fun cq52 => ?_) (fun cq52 => ?_)
      · exact absurd cq52 (by decide)
      · refine g_iconst (q := 56) B dX8_jewel_55 rfl ?_
        refine g_iret B E dX8_jewel_56 ?_
        exact pX_n 2 (by rw [cd_jewel]; (repeat' split) <;> omega) (by decide)
  · refine g_iconst (q := 14) B dX8_jewel_13 rfl ?_
    refine g_goto (q := 49) B dX8_jewel_14 (by decide) ?_
    refine g_callV (n := 82) (ty := tyX8) (q := 52) (As := [.int (iI 1)]) (st := []) B dX8_jewel_49 rfl (c_X8_refused (l := xL X) (S := S) 1 ⟨by omega, by omega⟩) eX8_refused w1004 (by decide) rfl rfl cls6 rfl rfl (Nat.le_of_ble_eq_true rfl) (g_kE ?_)
    have hwz : wf (mw (us S 82 ((uq (S 82) 0 1))) 84) := by rw [us82_84]; exact hw
    have e84_0 : (us S 82 ((uq (S 82) 0 1))) 84 0 = S 84 0 := rfl
    have e84_r : runsF (mw (us S 82 ((uq (S 82) 0 1))) 84) = runsF (mw S 84) := rfl
    refine g_ifb_eq (t := 57) (q := 55) B dX8_jewel_52 (by decide) rfl (fun cq52 => ?_) (fun cq52 => ?_)
    · exact absurd cq52 (by decide)
    · refine g_iconst (q := 56) B dX8_jewel_55 rfl ?_
      refine g_iret B E dX8_jewel_56 ?_
      exact pX_n 1 (by rw [cd_jewel]; (repeat' split) <;> omega) (by decide)
set_option maxHeartbeats 4000000 in
theorem c_X8_exchange {Y : gY} {l : Launch} {S : SS} (hw : wf (mw S 84)) (ha : 0 ≤ S 82 2 ∧ S 82 2 ≤ 14) (i : Int) (hi : rI i) (j : Int) (hj : rI j) : gM Y l mX8_exchange S [.ref (yA Y 82), .int (iI i), .int (iI j)] (pX S (cd_exchange (mw S 84) i j) (gapF (swapF (mw S 84) i j)) (swapF (mw S 84) i j)) := by
  refine gM_of (by decide) (Nat.le_of_ble_eq_true rfl) ?_
  intro X hXl B E
  obtain ⟨⟨hn0, hn16⟩, ⟨hb0, hb1⟩, ⟨hm0, hm1⟩, ⟨hs0, hs1⟩, ⟨hc0, hc1⟩, hct, hkw, how⟩ := wfT hw
  obtain ⟨hi0, hi1⟩ := hi
  obtain ⟨hj0, hj1⟩ := hj
  have m0 : mw S 84 0 = S 84 0 := rfl
  show gW Y X S 0 [(0, .ref (yA Y 82)), (1, .int (iI i)), (2, .int (iI j))] []
  refine g_aload_n (q := 1) B dX8_exchange_0 rfl 0 rfl ?_
  refine g_aload_n (q := 2) B dX8_exchange_1 rfl 0 rfl ?_
  refine g_get (n := 82) (ty := tyX8) (q := 5) (v := .ref (yA Y 84)) B dX8_exchange_2 rfl rfl rfl cls6 3 (by decide) w954 rfl ?_
  refine g_iload_n (q := 6) B dX8_exchange_5 rfl 1 rfl ?_
  refine g_callS (q := 9) (As := [.ref (yA Y 84), .int (iI i)]) (st := [.ref (yA Y 82)]) B dX8_exchange_6 rfl (c_X8_isJewel (l := xL X) (S := S) (Or.inl rfl) (wf.b hw) i ⟨by omega, by omega⟩) eX8_isJewel w1041 (by decide) rfl rfl (Nat.le_of_ble_eq_true rfl) (g_kE ?_)
  refine g_ifb_eq (t := 27) (q := 12) B dX8_exchange_9 (by decide) rfl (fun cq9 => ?_) (fun cq9 => ?_)
  · refine g_iconst (q := 28) B dX8_exchange_27 rfl ?_
    refine g_callV (n := 82) (ty := tyX8) (q := 31) (As := [.int (iI 1)]) (st := []) B dX8_exchange_28 rfl (c_X8_refused (l := xL X) (S := S) 1 ⟨by omega, by omega⟩) eX8_refused w1004 (by decide) rfl rfl cls6 rfl rfl (Nat.le_of_ble_eq_true rfl) (g_kE ?_)
    have hwz : wf (mw (us S 82 ((uq (S 82) 0 1))) 84) := by rw [us82_84]; exact hw
    have e84_0 : (us S 82 ((uq (S 82) 0 1))) 84 0 = S 84 0 := rfl
    have e84_r : runsF (mw (us S 82 ((uq (S 82) 0 1))) 84) = runsF (mw S 84) := rfl
    refine g_ifb_eq (t := 36) (q := 34) B dX8_exchange_31 (by decide) rfl (fun cq31 => ?_) (fun cq31 => ?_)
    · exact absurd cq31 (by decide)
    · refine g_iconst (q := 35) B dX8_exchange_34 rfl ?_
      refine g_iret B E dX8_exchange_35 ?_
      exact pX_n 1 (by rw [cd_exchange]; (repeat' split) <;> omega) (by decide)
  · refine g_aload_n (q := 13) B dX8_exchange_12 rfl 0 rfl ?_
    refine g_get (n := 82) (ty := tyX8) (q := 16) (v := .ref (yA Y 84)) B dX8_exchange_13 rfl rfl rfl cls6 3 (by decide) w954 rfl ?_
    refine g_iload_n (q := 17) B dX8_exchange_16 rfl 2 rfl ?_
    refine g_callS (q := 20) (As := [.ref (yA Y 84), .int (iI j)]) (st := [.ref (yA Y 82)]) B dX8_exchange_17 rfl (c_X8_isJewel (l := xL X) (S := S) (Or.inl rfl) (wf.b hw) j ⟨by omega, by omega⟩) eX8_isJewel w1041 (by decide) rfl rfl (Nat.le_of_ble_eq_true rfl) (g_kE ?_)
    refine g_ifb_eq (t := 27) (q := 23) B dX8_exchange_20 (by decide) rfl (fun cq20 => ?_) (fun cq20 => ?_)
    · refine g_iconst (q := 28) B dX8_exchange_27 rfl ?_
      refine g_callV (n := 82) (ty := tyX8) (q := 31) (As := [.int (iI 1)]) (st := []) B dX8_exchange_28 rfl (c_X8_refused (l := xL X) (S := S) 1 ⟨by omega, by omega⟩) eX8_refused w1004 (by decide) rfl rfl cls6 rfl rfl (Nat.le_of_ble_eq_true rfl) (g_kE ?_)
      have hwz : wf (mw (us S 82 ((uq (S 82) 0 1))) 84) := by rw [us82_84]; exact hw
      have e84_0 : (us S 82 ((uq (S 82) 0 1))) 84 0 = S 84 0 := rfl
      have e84_r : runsF (mw (us S 82 ((uq (S 82) 0 1))) 84) = runsF (mw S 84) := rfl
      refine g_ifb_eq (t := 36) (q := 34) B dX8_exchange_31 (by decide) rfl (fun cq31 => ?_) (fun cq31 => ?_)
      · exact absurd cq31 (by decide)
      · refine g_iconst (q := 35) B dX8_exchange_34 rfl ?_
        refine g_iret B E dX8_exchange_35 ?_
        exact pX_n 1 (by rw [cd_exchange]; (repeat' split) <;> omega) (by decide)
    · refine g_iconst (q := 24) B dX8_exchange_23 rfl ?_
      refine g_goto (q := 28) B dX8_exchange_24 (by decide) ?_
      refine g_callV (n := 82) (ty := tyX8) (q := 31) (As := [.int (iI 0)]) (st := []) B dX8_exchange_28 rfl (c_X8_refused (l := xL X) (S := S) 0 ⟨by omega, by omega⟩) eX8_refused w1004 (by decide) rfl rfl cls6 rfl rfl (Nat.le_of_ble_eq_true rfl) (g_kE ?_)
      have hwz : wf (mw (us S 82 ((uq (S 82) 0 0))) 84) := by rw [us82_84]; exact hw
      have e84_0 : (us S 82 ((uq (S 82) 0 0))) 84 0 = S 84 0 := rfl
      have e84_r : runsF (mw (us S 82 ((uq (S 82) 0 0))) 84) = runsF (mw S 84) := rfl
      refine g_ifb_eq (t := 36) (q := 34) B dX8_exchange_31 (by decide) rfl (fun cq31 => ?_) (fun cq31 => ?_)
      · refine g_aload_n (q := 37) B dX8_exchange_36 rfl 0 rfl ?_
        refine g_callV (n := 82) (ty := tyX8) (q := 40) (As := []) (st := []) B dX8_exchange_37 rfl (c_X8_remember (l := xL X) (S := (us S 82 ((uq (S 82) 0 0)))) ha) eX8_remember w1142 (by decide) (us_eq _ _ _) rfl cls6 rfl rfl (Nat.le_of_ble_eq_true rfl) (g_0E ?_)
        have hwy : wf (mw (rmU (us S 82 (uq (S 82) 0 0))) 84) := hw
        have e84_y : (rmU (us S 82 (uq (S 82) 0 0))) 84 0 = S 84 0 := rfl
        have e84_y1 : runsF (mw (rmU (us S 82 (uq (S 82) 0 0))) 84) = runsF (mw S 84) := rfl
        refine g_aload_n (q := 41) B dX8_exchange_40 rfl 0 rfl ?_
        refine g_get (n := 82) (ty := tyX8) (q := 44) (v := .ref (yA Y 84)) B dX8_exchange_41 rfl rfl rfl cls6 3 (by decide) w954 rfl ?_
        refine g_iload_n (q := 45) B dX8_exchange_44 rfl 1 rfl ?_
        refine g_iload_n (q := 46) B dX8_exchange_45 rfl 2 rfl ?_
        refine g_callS (q := 49) (As := [.ref (yA Y 84), .int (iI i), .int (iI j)]) (st := []) B dX8_exchange_46 rfl (c_X8_exchangeOn (l := xL X) (S := (rmU (us S 82 ((uq (S 82) 0 0))))) (Or.inl rfl) hwy i j (by omega) (by omega) (by omega) (by omega)) eX8_exchangeOn w1098 (by decide) rfl rfl (Nat.le_of_ble_eq_true rfl) (g_kV (fun Sy hSy => ?_))
        obtain ⟨hvSy, hfSy⟩ := hSy
        refine g_iret B E dX8_exchange_49 ?_
        exact pX_0 (by rw [cd_exchange]; (repeat' split) <;> omega) (by first | rfl | simp only [rmU_84, us82_84]) hvSy hfSy
      · exact absurd cq31 (by decide)
set_option maxHeartbeats 4000000 in
theorem c_X8_breakAt {Y : gY} {l : Launch} {S : SS} (hw : wf (mw S 84)) (ha : 0 ≤ S 82 2 ∧ S 82 2 ≤ 14) (j : Int) (hj : rI j) : gM Y l mX8_breakAt S [.ref (yA Y 82), .int (iI j)] (pX S (cd_breakAt (mw S 84) j) (S 84 1) (brkF (mw S 84) j)) := by
  refine gM_of (by decide) (Nat.le_of_ble_eq_true rfl) ?_
  intro X hXl B E
  obtain ⟨⟨hn0, hn16⟩, ⟨hb0, hb1⟩, ⟨hm0, hm1⟩, ⟨hs0, hs1⟩, ⟨hc0, hc1⟩, hct, hkw, how⟩ := wfT hw
  obtain ⟨hj0, hj1⟩ := hj
  have m0 : mw S 84 0 = S 84 0 := rfl
  show gW Y X S 0 [(0, .ref (yA Y 82)), (1, .int (iI j))] []
  refine g_aload_n (q := 1) B dX8_breakAt_0 rfl 0 rfl ?_
  refine g_aload_n (q := 2) B dX8_breakAt_1 rfl 0 rfl ?_
  refine g_get (n := 82) (ty := tyX8) (q := 5) (v := .ref (yA Y 84)) B dX8_breakAt_2 rfl rfl rfl cls6 3 (by decide) w954 rfl ?_
  refine g_iload_n (q := 6) B dX8_breakAt_5 rfl 1 rfl ?_
  refine g_callS (q := 9) (As := [.ref (yA Y 84), .int (iI j)]) (st := [.ref (yA Y 82)]) B dX8_breakAt_6 rfl (c_X8_isJewel (l := xL X) (S := S) (Or.inl rfl) (wf.b hw) j ⟨by omega, by omega⟩) eX8_isJewel w1041 (by decide) rfl rfl (Nat.le_of_ble_eq_true rfl) (g_kE ?_)
  refine g_ifb_eq (t := 16) (q := 12) B dX8_breakAt_9 (by decide) rfl (fun cq9 => ?_) (fun cq9 => ?_)
  · refine g_iconst (q := 17) B dX8_breakAt_16 rfl ?_
    refine g_callV (n := 82) (ty := tyX8) (q := 20) (As := [.int (iI 1)]) (st := []) B dX8_breakAt_17 rfl (c_X8_refused (l := xL X) (S := S) 1 ⟨by omega, by omega⟩) eX8_refused w1004 (by decide) rfl rfl cls6 rfl rfl (Nat.le_of_ble_eq_true rfl) (g_kE ?_)
    have hwz : wf (mw (us S 82 ((uq (S 82) 0 1))) 84) := by rw [us82_84]; exact hw
    have e84_0 : (us S 82 ((uq (S 82) 0 1))) 84 0 = S 84 0 := rfl
    have e84_r : runsF (mw (us S 82 ((uq (S 82) 0 1))) 84) = runsF (mw S 84) := rfl
    refine g_ifb_eq (t := 25) (q := 23) B dX8_breakAt_20 (by decide) rfl (fun cq20 => ?_) (fun cq20 => ?_)
    · exact absurd cq20 (by decide)
    · refine g_iconst (q := 24) B dX8_breakAt_23 rfl ?_
      refine g_iret B E dX8_breakAt_24 ?_
      exact pX_n 1 (by rw [cd_breakAt]; (repeat' split) <;> omega) (by decide)
  · refine g_iconst (q := 13) B dX8_breakAt_12 rfl ?_
    refine g_goto (q := 17) B dX8_breakAt_13 (by decide) ?_
    refine g_callV (n := 82) (ty := tyX8) (q := 20) (As := [.int (iI 0)]) (st := []) B dX8_breakAt_17 rfl (c_X8_refused (l := xL X) (S := S) 0 ⟨by omega, by omega⟩) eX8_refused w1004 (by decide) rfl rfl cls6 rfl rfl (Nat.le_of_ble_eq_true rfl) (g_kE ?_)
    have hwz : wf (mw (us S 82 ((uq (S 82) 0 0))) 84) := by rw [us82_84]; exact hw
    have e84_0 : (us S 82 ((uq (S 82) 0 0))) 84 0 = S 84 0 := rfl
    have e84_r : runsF (mw (us S 82 ((uq (S 82) 0 0))) 84) = runsF (mw S 84) := rfl
    refine g_ifb_eq (t := 25) (q := 23) B dX8_breakAt_20 (by decide) rfl (fun cq20 => ?_) (fun cq20 => ?_)
    · refine g_aload_n (q := 26) B dX8_breakAt_25 rfl 0 rfl ?_
      refine g_callV (n := 82) (ty := tyX8) (q := 29) (As := []) (st := []) B dX8_breakAt_26 rfl (c_X8_remember (l := xL X) (S := (us S 82 ((uq (S 82) 0 0)))) ha) eX8_remember w1142 (by decide) (us_eq _ _ _) rfl cls6 rfl rfl (Nat.le_of_ble_eq_true rfl) (g_0E ?_)
      have hwy : wf (mw (rmU (us S 82 (uq (S 82) 0 0))) 84) := hw
      have e84_y : (rmU (us S 82 (uq (S 82) 0 0))) 84 0 = S 84 0 := rfl
      have e84_y1 : runsF (mw (rmU (us S 82 (uq (S 82) 0 0))) 84) = runsF (mw S 84) := rfl
      refine g_aload_n (q := 30) B dX8_breakAt_29 rfl 0 rfl ?_
      refine g_get (n := 82) (ty := tyX8) (q := 33) (v := .ref (yA Y 84)) B dX8_breakAt_30 rfl rfl rfl cls6 3 (by decide) w954 rfl ?_
      refine g_iload_n (q := 34) B dX8_breakAt_33 rfl 1 rfl ?_
      refine g_callS (q := 37) (As := [.ref (yA Y 84), .int (iI j)]) (st := []) B dX8_breakAt_34 rfl (c_X8_breakOn (l := xL X) (S := (rmU (us S 82 ((uq (S 82) 0 0))))) (Or.inl rfl) hwy j (by omega) (by omega)) eX8_breakOn w1044 (by decide) rfl rfl (Nat.le_of_ble_eq_true rfl) (g_kV (fun Sy hSy => ?_))
      obtain ⟨hvSy, hfSy⟩ := hSy
      refine g_iret B E dX8_breakAt_37 ?_
      exact pX_0 (by rw [cd_breakAt]; (repeat' split) <;> omega) (by first | rfl | simp only [rmU_84, us82_84]) hvSy hfSy
    · exact absurd cq20 (by decide)
set_option maxHeartbeats 4000000 in
theorem c_X8_turnRound {Y : gY} {l : Launch} {S : SS} (hw : wf (mw S 84)) (ha : 0 ≤ S 82 2 ∧ S 82 2 ≤ 14) : gM Y l mX8_turnRound S [.ref (yA Y 82)] (pX S (0) (S 84 0) (revF (mw S 84))) := by
  refine gM_of (by decide) (Nat.le_of_ble_eq_true rfl) ?_
  intro X hXl B E
  obtain ⟨⟨hn0, hn16⟩, ⟨hb0, hb1⟩, ⟨hm0, hm1⟩, ⟨hs0, hs1⟩, ⟨hc0, hc1⟩, hct, hkw, how⟩ := wfT hw
  show gW Y X S 0 [(0, .ref (yA Y 82))] []
  refine g_aload_n (q := 1) B dX8_turnRound_0 rfl 0 rfl ?_
  refine g_iconst (q := 2) B dX8_turnRound_1 rfl ?_
  refine g_put (n := 82) (ty := tyX8) (q := 5) B dX8_turnRound_2 rfl rfl rfl cls6 0 (by decide) w951 rfl rfl rfl (Nat.le_of_ble_eq_true rfl) ((uq (S 82) 0 0)) rfl ?_
  refine g_aload_n (q := 6) B dX8_turnRound_5 rfl 0 rfl ?_
  refine g_callV (n := 82) (ty := tyX8) (q := 9) (As := []) (st := []) B dX8_turnRound_6 rfl (c_X8_remember (l := xL X) (S := (us S 82 ((uq (S 82) 0 0)))) ha) eX8_remember w1142 (by decide) (us_eq _ _ _) rfl cls6 rfl rfl (Nat.le_of_ble_eq_true rfl) (g_0E ?_)
  have hwy : wf (mw (rmU (us S 82 (uq (S 82) 0 0))) 84) := hw
  have e84_y : (rmU (us S 82 (uq (S 82) 0 0))) 84 0 = S 84 0 := rfl
  have e84_y1 : runsF (mw (rmU (us S 82 (uq (S 82) 0 0))) 84) = runsF (mw S 84) := rfl
  refine g_aload_n (q := 10) B dX8_turnRound_9 rfl 0 rfl ?_
  refine g_get (n := 82) (ty := tyX8) (q := 13) (v := .ref (yA Y 84)) B dX8_turnRound_10 rfl rfl rfl cls6 3 (by decide) w954 rfl ?_
  refine g_callS (q := 16) (As := [.ref (yA Y 84)]) (st := []) B dX8_turnRound_13 rfl (c_X8_roundOn (l := xL X) (S := (rmU (us S 82 ((uq (S 82) 0 0))))) (Or.inl rfl) hwy  ) eX8_roundOn w1095 (by decide) rfl rfl (Nat.le_of_ble_eq_true rfl) (g_kV (fun Sy hSy => ?_))
  obtain ⟨hvSy, hfSy⟩ := hSy
  refine g_iret B E dX8_turnRound_16 ?_
  exact pX_0 rfl (by first | rfl | simp only [rmU_84, us82_84]) hvSy hfSy
set_option maxHeartbeats 4000000 in
theorem c_X8_cut {Y : gY} {l : Launch} {S : SS} (hw : wf (mw S 84)) (ha : 0 ≤ S 82 2 ∧ S 82 2 ≤ 14) (p : Int) (hp : rI p) (b : Int) (hb : b = 0 ∨ b = 1) : gM Y l mX8_cut S [.ref (yA Y 82), .int (iI p), .int (iI b)] (pX S (cd_cut (mw S 84) p) (runsF (cutF (mw S 84) p (b = 1))) (cutF (mw S 84) p (b = 1))) := by
  refine gM_of (by decide) (Nat.le_of_ble_eq_true rfl) ?_
  intro X hXl B E
  obtain ⟨⟨hn0, hn16⟩, ⟨hb0, hb1⟩, ⟨hm0, hm1⟩, ⟨hs0, hs1⟩, ⟨hc0, hc1⟩, hct, hkw, how⟩ := wfT hw
  obtain ⟨hp0, hp1⟩ := hp
  have m0 : mw S 84 0 = S 84 0 := rfl
  show gW Y X S 0 [(0, .ref (yA Y 82)), (1, .int (iI p)), (2, .int (iI b))] []
  refine g_aload_n (q := 1) B dX8_cut_0 rfl 0 rfl ?_
  refine g_aload_n (q := 2) B dX8_cut_1 rfl 0 rfl ?_
  refine g_get (n := 82) (ty := tyX8) (q := 5) (v := .ref (yA Y 84)) B dX8_cut_2 rfl rfl rfl cls6 3 (by decide) w954 rfl ?_
  refine g_iload_n (q := 6) B dX8_cut_5 rfl 1 rfl ?_
  refine g_callS (q := 9) (As := [.ref (yA Y 84), .int (iI p)]) (st := [.ref (yA Y 82)]) B dX8_cut_6 rfl (c_X8_isCutPlace (l := xL X) (S := S) (Or.inl rfl) (wf.b hw) p ⟨by omega, by omega⟩) eX8_isCutPlace w1047 (by decide) rfl rfl (Nat.le_of_ble_eq_true rfl) (g_kE ?_)
  refine g_ifb_eq (t := 16) (q := 12) B dX8_cut_9 (by decide) rfl (fun cq9 => ?_) (fun cq9 => ?_)
  · refine g_iconst (q := 17) B dX8_cut_16 rfl ?_
    refine g_callV (n := 82) (ty := tyX8) (q := 20) (As := [.int (iI 1)]) (st := []) B dX8_cut_17 rfl (c_X8_refused (l := xL X) (S := S) 1 ⟨by omega, by omega⟩) eX8_refused w1004 (by decide) rfl rfl cls6 rfl rfl (Nat.le_of_ble_eq_true rfl) (g_kE ?_)
    have hwz : wf (mw (us S 82 ((uq (S 82) 0 1))) 84) := by rw [us82_84]; exact hw
    have e84_0 : (us S 82 ((uq (S 82) 0 1))) 84 0 = S 84 0 := rfl
    have e84_r : runsF (mw (us S 82 ((uq (S 82) 0 1))) 84) = runsF (mw S 84) := rfl
    refine g_ifb_eq (t := 25) (q := 23) B dX8_cut_20 (by decide) rfl (fun cq20 => ?_) (fun cq20 => ?_)
    · exact absurd cq20 (by decide)
    · refine g_iconst (q := 24) B dX8_cut_23 rfl ?_
      refine g_iret B E dX8_cut_24 ?_
      exact pX_n 1 (by rw [cd_cut]; (repeat' split) <;> omega) (by decide)
  · refine g_iconst (q := 13) B dX8_cut_12 rfl ?_
    refine g_goto (q := 17) B dX8_cut_13 (by decide) ?_
    refine g_callV (n := 82) (ty := tyX8) (q := 20) (As := [.int (iI 0)]) (st := []) B dX8_cut_17 rfl (c_X8_refused (l := xL X) (S := S) 0 ⟨by omega, by omega⟩) eX8_refused w1004 (by decide) rfl rfl cls6 rfl rfl (Nat.le_of_ble_eq_true rfl) (g_kE ?_)
    have hwz : wf (mw (us S 82 ((uq (S 82) 0 0))) 84) := by rw [us82_84]; exact hw
    have e84_0 : (us S 82 ((uq (S 82) 0 0))) 84 0 = S 84 0 := rfl
    have e84_r : runsF (mw (us S 82 ((uq (S 82) 0 0))) 84) = runsF (mw S 84) := rfl
    refine g_ifb_eq (t := 25) (q := 23) B dX8_cut_20 (by decide) rfl (fun cq20 => ?_) (fun cq20 => ?_)
    · refine g_aload_n (q := 26) B dX8_cut_25 rfl 0 rfl ?_
      refine g_callV (n := 82) (ty := tyX8) (q := 29) (As := []) (st := []) B dX8_cut_26 rfl (c_X8_remember (l := xL X) (S := (us S 82 ((uq (S 82) 0 0)))) ha) eX8_remember w1142 (by decide) (us_eq _ _ _) rfl cls6 rfl rfl (Nat.le_of_ble_eq_true rfl) (g_0E ?_)
      have hwy : wf (mw (rmU (us S 82 (uq (S 82) 0 0))) 84) := hw
      have e84_y : (rmU (us S 82 (uq (S 82) 0 0))) 84 0 = S 84 0 := rfl
      have e84_y1 : runsF (mw (rmU (us S 82 (uq (S 82) 0 0))) 84) = runsF (mw S 84) := rfl
      refine g_aload_n (q := 30) B dX8_cut_29 rfl 0 rfl ?_
      refine g_get (n := 82) (ty := tyX8) (q := 33) (v := .ref (yA Y 84)) B dX8_cut_30 rfl rfl rfl cls6 3 (by decide) w954 rfl ?_
      refine g_iload_n (q := 34) B dX8_cut_33 rfl 1 rfl ?_
      refine g_iload_n (q := 35) B dX8_cut_34 rfl 2 rfl ?_
      refine g_callS (q := 38) (As := [.ref (yA Y 84), .int (iI p), .int (iI b)]) (st := []) B dX8_cut_35 rfl (c_X8_cutOn (l := xL X) (S := (rmU (us S 82 ((uq (S 82) 0 0))))) (Or.inl rfl) hwy p b (by omega) (by omega) (by omega)) eX8_cutOn w1050 (by decide) rfl rfl (Nat.le_of_ble_eq_true rfl) (g_kV (fun Sy hSy => ?_))
      obtain ⟨hvSy, hfSy⟩ := hSy
      have := runsF_in (cutF (mw (rmU (us S 82 ((uq (S 82) 0 0)))) 84) p ((b : Int) = 1))
      refine g_iret B E dX8_cut_38 ?_
      exact pX_0 (by rw [cd_cut]; (repeat' split) <;> omega) (by first | rfl | simp only [rmU_84, us82_84]) hvSy hfSy
    · exact absurd cq20 (by decide)
set_option maxHeartbeats 4000000 in
theorem c_X8_give {Y : gY} {l : Launch} {S : SS} (hw : wf (mw S 84)) (ha : 0 ≤ S 82 2 ∧ S 82 2 ≤ 14) (r : Int) (hr : rI r) (o : Int) (ho : rI o) : gM Y l mX8_give S [.ref (yA Y 82), .int (iI r), .int (iI o)] (pX S (cd_give (mw S 84) r o) (gapF (giveF (mw S 84) r o)) (giveF (mw S 84) r o)) := by
  refine gM_of (by decide) (Nat.le_of_ble_eq_true rfl) ?_
  intro X hXl B E
  obtain ⟨⟨hn0, hn16⟩, ⟨hb0, hb1⟩, ⟨hm0, hm1⟩, ⟨hs0, hs1⟩, ⟨hc0, hc1⟩, hct, hkw, how⟩ := wfT hw
  obtain ⟨hr0, hr1⟩ := hr
  obtain ⟨ho0, ho1⟩ := ho
  show gW Y X S 0 [(0, .ref (yA Y 82)), (1, .int (iI r)), (2, .int (iI o))] []
  refine g_aload_n (q := 1) B dX8_give_0 rfl 0 rfl ?_
  refine g_aload_n (q := 2) B dX8_give_1 rfl 0 rfl ?_
  refine g_get (n := 82) (ty := tyX8) (q := 5) (v := .ref (yA Y 84)) B dX8_give_2 rfl rfl rfl cls6 3 (by decide) w954 rfl ?_
  refine g_iload_n (q := 6) B dX8_give_5 rfl 1 rfl ?_
  refine g_callS (q := 9) (As := [.ref (yA Y 84), .int (iI r)]) (st := [.ref (yA Y 82)]) B dX8_give_6 rfl (c_X8_isRun (l := xL X) (S := S) (Or.inl rfl) (wf.b hw) r ⟨by omega, by omega⟩) eX8_isRun w1065 (by decide) rfl rfl (Nat.le_of_ble_eq_true rfl) (g_kE ?_)
  have := runsF_in (mw S 84)
  refine g_ifb_ne (t := 16) (q := 12) B dX8_give_9 (by decide) rfl (fun cq9 => ?_) (fun cq9 => ?_)
  · refine g_iload_n (q := 17) B dX8_give_16 rfl 2 rfl ?_
    refine g_callS (q := 20) (As := [.int (iI o)]) (st := [.ref (yA Y 82)]) B dX8_give_17 rfl (c_X8_isOwner (l := xL X) (S := S) o ⟨by omega, by omega⟩) eX8_isOwner w1166 (by decide) rfl rfl (Nat.le_of_ble_eq_true rfl) (g_kE ?_)
    refine g_ifb_eq (t := 27) (q := 23) B dX8_give_20 (by decide) rfl (fun cq20 => ?_) (fun cq20 => ?_)
    · refine g_iconst (q := 28) B dX8_give_27 rfl ?_
      refine g_callV (n := 82) (ty := tyX8) (q := 31) (As := [.int (iI 2)]) (st := []) B dX8_give_28 rfl (c_X8_refused (l := xL X) (S := S) 2 ⟨by omega, by omega⟩) eX8_refused w1004 (by decide) rfl rfl cls6 rfl rfl (Nat.le_of_ble_eq_true rfl) (g_kE ?_)
      have hwz : wf (mw (us S 82 ((uq (S 82) 0 2))) 84) := by rw [us82_84]; exact hw
      have e84_0 : (us S 82 ((uq (S 82) 0 2))) 84 0 = S 84 0 := rfl
      have e84_r : runsF (mw (us S 82 ((uq (S 82) 0 2))) 84) = runsF (mw S 84) := rfl
      refine g_ifb_eq (t := 36) (q := 34) B dX8_give_31 (by decide) rfl (fun cq31 => ?_) (fun cq31 => ?_)
      · exact absurd cq31 (by decide)
      · refine g_iconst (q := 35) B dX8_give_34 rfl ?_
        refine g_iret B E dX8_give_35 ?_
        exact pX_n 2 (by rw [cd_give]; (repeat' split) <;> omega) (by decide)
    · refine g_iconst (q := 24) B dX8_give_23 rfl ?_
      refine g_goto (q := 28) B dX8_give_24 (by decide) ?_
      refine g_callV (n := 82) (ty := tyX8) (q := 31) (As := [.int (iI 0)]) (st := []) B dX8_give_28 rfl (c_X8_refused (l := xL X) (S := S) 0 ⟨by omega, by omega⟩) eX8_refused w1004 (by decide) rfl rfl cls6 rfl rfl (Nat.le_of_ble_eq_true rfl) (g_kE ?_)
      have hwz : wf (mw (us S 82 ((uq (S 82) 0 0))) 84) := by rw [us82_84]; exact hw
      have e84_0 : (us S 82 ((uq (S 82) 0 0))) 84 0 = S 84 0 := rfl
      have e84_r : runsF (mw (us S 82 ((uq (S 82) 0 0))) 84) = runsF (mw S 84) := rfl
      refine g_ifb_eq (t := 36) (q := 34) B dX8_give_31 (by decide) rfl (fun cq31 => ?_) (fun cq31 => ?_)
      · refine g_aload_n (q := 37) B dX8_give_36 rfl 0 rfl ?_
        refine g_callV (n := 82) (ty := tyX8) (q := 40) (As := []) (st := []) B dX8_give_37 rfl (c_X8_remember (l := xL X) (S := (us S 82 ((uq (S 82) 0 0)))) ha) eX8_remember w1142 (by decide) (us_eq _ _ _) rfl cls6 rfl rfl (Nat.le_of_ble_eq_true rfl) (g_0E ?_)
        have hwy : wf (mw (rmU (us S 82 (uq (S 82) 0 0))) 84) := hw
        have e84_y : (rmU (us S 82 (uq (S 82) 0 0))) 84 0 = S 84 0 := rfl
        have e84_y1 : runsF (mw (rmU (us S 82 (uq (S 82) 0 0))) 84) = runsF (mw S 84) := rfl
        refine g_aload_n (q := 41) B dX8_give_40 rfl 0 rfl ?_
        refine g_get (n := 82) (ty := tyX8) (q := 44) (v := .ref (yA Y 84)) B dX8_give_41 rfl rfl rfl cls6 3 (by decide) w954 rfl ?_
        refine g_iload_n (q := 45) B dX8_give_44 rfl 1 rfl ?_
        refine g_iload_n (q := 46) B dX8_give_45 rfl 2 rfl ?_
        refine g_callS (q := 49) (As := [.ref (yA Y 84), .int (iI r), .int (iI o)]) (st := []) B dX8_give_46 rfl (c_X8_giveOn (l := xL X) (S := (rmU (us S 82 ((uq (S 82) 0 0))))) (Or.inl rfl) hwy r o ⟨by omega, by omega⟩ (by omega)) eX8_giveOn w1068 (by decide) rfl rfl (Nat.le_of_ble_eq_true rfl) (g_kV (fun Sy hSy => ?_))
        obtain ⟨hvSy, hfSy⟩ := hSy
        have := gapF_in (wf_give hwy r (o := o) (by omega))
        refine g_iret B E dX8_give_49 ?_
        exact pX_0 (by rw [cd_give]; (repeat' split) <;> omega) (by first | rfl | simp only [rmU_84, us82_84]) hvSy hfSy
      · exact absurd cq31 (by decide)
  · refine g_iconst (q := 13) B dX8_give_12 rfl ?_
    refine g_goto (q := 28) B dX8_give_13 (by decide) ?_
    refine g_callV (n := 82) (ty := tyX8) (q := 31) (As := [.int (iI 1)]) (st := []) B dX8_give_28 rfl (c_X8_refused (l := xL X) (S := S) 1 ⟨by omega, by omega⟩) eX8_refused w1004 (by decide) rfl rfl cls6 rfl rfl (Nat.le_of_ble_eq_true rfl) (g_kE ?_)
    have hwz : wf (mw (us S 82 ((uq (S 82) 0 1))) 84) := by rw [us82_84]; exact hw
    have e84_0 : (us S 82 ((uq (S 82) 0 1))) 84 0 = S 84 0 := rfl
    have e84_r : runsF (mw (us S 82 ((uq (S 82) 0 1))) 84) = runsF (mw S 84) := rfl
    refine g_ifb_eq (t := 36) (q := 34) B dX8_give_31 (by decide) rfl (fun cq31 => ?_) (fun cq31 => ?_)
    · exact absurd cq31 (by decide)
    · refine g_iconst (q := 35) B dX8_give_34 rfl ?_
      refine g_iret B E dX8_give_35 ?_
      exact pX_n 1 (by rw [cd_give]; (repeat' split) <;> omega) (by decide)
set_option maxHeartbeats 4000000 in
theorem c_X8_take {Y : gY} {l : Launch} {S : SS} (hw : wf (mw S 84)) (ha : 0 ≤ S 82 2 ∧ S 82 2 ≤ 14) (r : Int) (hr : rI r) : gM Y l mX8_take S [.ref (yA Y 82), .int (iI r)] (pX S (cd_take (mw S 84) r) (whyF (mw S 84) r) (takeM (mw S 84) r)) := by
  refine gM_of (by decide) (Nat.le_of_ble_eq_true rfl) ?_
  intro X hXl B E
  obtain ⟨⟨hn0, hn16⟩, ⟨hb0, hb1⟩, ⟨hm0, hm1⟩, ⟨hs0, hs1⟩, ⟨hc0, hc1⟩, hct, hkw, how⟩ := wfT hw
  obtain ⟨hr0, hr1⟩ := hr
  show gW Y X S 0 [(0, .ref (yA Y 82)), (1, .int (iI r))] []
  refine g_aload_n (q := 1) B dX8_take_0 rfl 0 rfl ?_
  refine g_aload_n (q := 2) B dX8_take_1 rfl 0 rfl ?_
  refine g_get (n := 82) (ty := tyX8) (q := 5) (v := .ref (yA Y 84)) B dX8_take_2 rfl rfl rfl cls6 3 (by decide) w954 rfl ?_
  refine g_iload_n (q := 6) B dX8_take_5 rfl 1 rfl ?_
  refine g_callS (q := 9) (As := [.ref (yA Y 84), .int (iI r)]) (st := [.ref (yA Y 82)]) B dX8_take_6 rfl (c_X8_isRun (l := xL X) (S := S) (Or.inl rfl) (wf.b hw) r ⟨by omega, by omega⟩) eX8_isRun w1065 (by decide) rfl rfl (Nat.le_of_ble_eq_true rfl) (g_kE ?_)
  have := runsF_in (mw S 84)
  refine g_ifb_eq (t := 16) (q := 12) B dX8_take_9 (by decide) rfl (fun cq9 => ?_) (fun cq9 => ?_)
  · refine g_iconst (q := 17) B dX8_take_16 rfl ?_
    refine g_callV (n := 82) (ty := tyX8) (q := 20) (As := [.int (iI 1)]) (st := []) B dX8_take_17 rfl (c_X8_refused (l := xL X) (S := S) 1 ⟨by omega, by omega⟩) eX8_refused w1004 (by decide) rfl rfl cls6 rfl rfl (Nat.le_of_ble_eq_true rfl) (g_kE ?_)
    have hwz : wf (mw (us S 82 ((uq (S 82) 0 1))) 84) := by rw [us82_84]; exact hw
    have e84_0 : (us S 82 ((uq (S 82) 0 1))) 84 0 = S 84 0 := rfl
    have e84_r : runsF (mw (us S 82 ((uq (S 82) 0 1))) 84) = runsF (mw S 84) := rfl
    refine g_ifb_eq (t := 25) (q := 23) B dX8_take_20 (by decide) rfl (fun cq20 => ?_) (fun cq20 => ?_)
    · exact absurd cq20 (by decide)
    · refine g_iconst (q := 24) B dX8_take_23 rfl ?_
      refine g_iret B E dX8_take_24 ?_
      exact pX_n 1 (by rw [cd_take]; (repeat' split) <;> omega) (by decide)
  · refine g_iconst (q := 13) B dX8_take_12 rfl ?_
    refine g_goto (q := 17) B dX8_take_13 (by decide) ?_
    refine g_callV (n := 82) (ty := tyX8) (q := 20) (As := [.int (iI 0)]) (st := []) B dX8_take_17 rfl (c_X8_refused (l := xL X) (S := S) 0 ⟨by omega, by omega⟩) eX8_refused w1004 (by decide) rfl rfl cls6 rfl rfl (Nat.le_of_ble_eq_true rfl) (g_kE ?_)
    have hwz : wf (mw (us S 82 ((uq (S 82) 0 0))) 84) := by rw [us82_84]; exact hw
    have e84_0 : (us S 82 ((uq (S 82) 0 0))) 84 0 = S 84 0 := rfl
    have e84_r : runsF (mw (us S 82 ((uq (S 82) 0 0))) 84) = runsF (mw S 84) := rfl
    refine g_ifb_eq (t := 25) (q := 23) B dX8_take_20 (by decide) rfl (fun cq20 => ?_) (fun cq20 => ?_)
    · refine g_aload_n (q := 26) B dX8_take_25 rfl 0 rfl ?_
      refine g_callV (n := 82) (ty := tyX8) (q := 29) (As := []) (st := []) B dX8_take_26 rfl (c_X8_remember (l := xL X) (S := (us S 82 ((uq (S 82) 0 0)))) ha) eX8_remember w1142 (by decide) (us_eq _ _ _) rfl cls6 rfl rfl (Nat.le_of_ble_eq_true rfl) (g_0E ?_)
      have hwy : wf (mw (rmU (us S 82 (uq (S 82) 0 0))) 84) := hw
      have e84_y : (rmU (us S 82 (uq (S 82) 0 0))) 84 0 = S 84 0 := rfl
      have e84_y1 : runsF (mw (rmU (us S 82 (uq (S 82) 0 0))) 84) = runsF (mw S 84) := rfl
      refine g_aload_n (q := 30) B dX8_take_29 rfl 0 rfl ?_
      refine g_get (n := 82) (ty := tyX8) (q := 33) (v := .ref (yA Y 84)) B dX8_take_30 rfl rfl rfl cls6 3 (by decide) w954 rfl ?_
      refine g_iload_n (q := 34) B dX8_take_33 rfl 1 rfl ?_
      refine g_callS (q := 37) (As := [.ref (yA Y 84), .int (iI r)]) (st := []) B dX8_take_34 rfl (c_X8_takeOn (l := xL X) (S := (rmU (us S 82 ((uq (S 82) 0 0))))) (Or.inl rfl) hwy r (by omega) (by omega)) eX8_takeOn w1089 (by decide) rfl rfl (Nat.le_of_ble_eq_true rfl) (g_kV (fun Sy hSy => ?_))
      obtain ⟨hvSy, hfSy⟩ := hSy
      have := whyF_in (mw (rmU (us S 82 ((uq (S 82) 0 0)))) 84) r
      refine g_iret B E dX8_take_37 ?_
      exact pX_0 (by rw [cd_take]; (repeat' split) <;> omega) (by first | rfl | simp only [rmU_84, us82_84]) hvSy hfSy
    · exact absurd cq20 (by decide)
set_option maxHeartbeats 4000000 in
theorem c_X8_deal {Y : gY} {l : Launch} {S : SS} (hw : wf (mw S 84)) (ha : 0 ≤ S 82 2 ∧ S 82 2 ≤ 14) (s : Int) (hs : rI s) : gM Y l mX8_deal S [.ref (yA Y 82), .int (iI s)] (pX S (cd_01 s) (gapF (dealF (mw S 84) s)) (dealF (mw S 84) s)) := by
  refine gM_of (by decide) (Nat.le_of_ble_eq_true rfl) ?_
  intro X hXl B E
  obtain ⟨⟨hn0, hn16⟩, ⟨hb0, hb1⟩, ⟨hm0, hm1⟩, ⟨hs0, hs1⟩, ⟨hc0, hc1⟩, hct, hkw, how⟩ := wfT hw
  obtain ⟨hs0, hs1⟩ := hs
  show gW Y X S 0 [(0, .ref (yA Y 82)), (1, .int (iI s))] []
  refine g_aload_n (q := 1) B dX8_deal_0 rfl 0 rfl ?_
  refine g_iload_n (q := 2) B dX8_deal_1 rfl 1 rfl ?_
  refine g_i2l (q := 3) B dX8_deal_2 rfl ⟨by omega, by omega⟩ ?_
  refine g_lconst (z := 0) (q := 4) B dX8_deal_3 rfl rfl ?_
  refine g_lconst (z := 1) (q := 5) B dX8_deal_4 rfl rfl ?_
  refine g_callS (q := 8) (As := [.long (lI s), .long (lI 0), .long (lI 1)]) (st := [.ref (yA Y 82)]) B dX8_deal_5 rfl (c_X8_in (l := xL X) (S := S) s 0 1 ⟨by omega, by omega⟩ ⟨by omega, by omega⟩ ⟨by omega, by omega⟩) eX8_in w1001 (by decide) rfl rfl (Nat.le_of_ble_eq_true rfl) (g_kE ?_)
  refine g_ifb_eq (t := 15) (q := 11) B dX8_deal_8 (by decide) rfl (fun cq8 => ?_) (fun cq8 => ?_)
  · refine g_iconst (q := 16) B dX8_deal_15 rfl ?_
    refine g_callV (n := 82) (ty := tyX8) (q := 19) (As := [.int (iI 1)]) (st := []) B dX8_deal_16 rfl (c_X8_refused (l := xL X) (S := S) 1 ⟨by omega, by omega⟩) eX8_refused w1004 (by decide) rfl rfl cls6 rfl rfl (Nat.le_of_ble_eq_true rfl) (g_kE ?_)
    have hwz : wf (mw (us S 82 ((uq (S 82) 0 1))) 84) := by rw [us82_84]; exact hw
    have e84_0 : (us S 82 ((uq (S 82) 0 1))) 84 0 = S 84 0 := rfl
    have e84_r : runsF (mw (us S 82 ((uq (S 82) 0 1))) 84) = runsF (mw S 84) := rfl
    refine g_ifb_eq (t := 24) (q := 22) B dX8_deal_19 (by decide) rfl (fun cq19 => ?_) (fun cq19 => ?_)
    · exact absurd cq19 (by decide)
    · refine g_iconst (q := 23) B dX8_deal_22 rfl ?_
      refine g_iret B E dX8_deal_23 ?_
      exact pX_n 1 (by rw [cd_01]; (repeat' split) <;> omega) (by decide)
  · refine g_iconst (q := 12) B dX8_deal_11 rfl ?_
    refine g_goto (q := 16) B dX8_deal_12 (by decide) ?_
    refine g_callV (n := 82) (ty := tyX8) (q := 19) (As := [.int (iI 0)]) (st := []) B dX8_deal_16 rfl (c_X8_refused (l := xL X) (S := S) 0 ⟨by omega, by omega⟩) eX8_refused w1004 (by decide) rfl rfl cls6 rfl rfl (Nat.le_of_ble_eq_true rfl) (g_kE ?_)
    have hwz : wf (mw (us S 82 ((uq (S 82) 0 0))) 84) := by rw [us82_84]; exact hw
    have e84_0 : (us S 82 ((uq (S 82) 0 0))) 84 0 = S 84 0 := rfl
    have e84_r : runsF (mw (us S 82 ((uq (S 82) 0 0))) 84) = runsF (mw S 84) := rfl
    refine g_ifb_eq (t := 24) (q := 22) B dX8_deal_19 (by decide) rfl (fun cq19 => ?_) (fun cq19 => ?_)
    · refine g_aload_n (q := 25) B dX8_deal_24 rfl 0 rfl ?_
      refine g_callV (n := 82) (ty := tyX8) (q := 28) (As := []) (st := []) B dX8_deal_25 rfl (c_X8_remember (l := xL X) (S := (us S 82 ((uq (S 82) 0 0)))) ha) eX8_remember w1142 (by decide) (us_eq _ _ _) rfl cls6 rfl rfl (Nat.le_of_ble_eq_true rfl) (g_0E ?_)
      have hwy : wf (mw (rmU (us S 82 (uq (S 82) 0 0))) 84) := hw
      have e84_y : (rmU (us S 82 (uq (S 82) 0 0))) 84 0 = S 84 0 := rfl
      have e84_y1 : runsF (mw (rmU (us S 82 (uq (S 82) 0 0))) 84) = runsF (mw S 84) := rfl
      refine g_aload_n (q := 29) B dX8_deal_28 rfl 0 rfl ?_
      refine g_get (n := 82) (ty := tyX8) (q := 32) (v := .ref (yA Y 84)) B dX8_deal_29 rfl rfl rfl cls6 3 (by decide) w954 rfl ?_
      refine g_iload_n (q := 33) B dX8_deal_32 rfl 1 rfl ?_
      refine g_callS (q := 36) (As := [.ref (yA Y 84), .int (iI s)]) (st := []) B dX8_deal_33 rfl (c_X8_dealOn (l := xL X) (S := (rmU (us S 82 ((uq (S 82) 0 0))))) (Or.inl rfl) (wf.b hwy) s ⟨by omega, by omega⟩ (wf_deal hwy s)) eX8_dealOn w1092 (by decide) rfl rfl (Nat.le_of_ble_eq_true rfl) (g_kV (fun Sy hSy => ?_))
      obtain ⟨hvSy, hfSy⟩ := hSy
      have := gapF_in (wf_deal hwy s)
      refine g_iret B E dX8_deal_36 ?_
      exact pX_0 (by rw [cd_01]; (repeat' split) <;> omega) (by first | rfl | simp only [rmU_84, us82_84]) hvSy hfSy
    · exact absurd cq19 (by decide)
set_option maxHeartbeats 4000000 in
theorem c_X8_set {Y : gY} {l : Launch} {S : SS} (hw : wf (mw S 84)) (ha : 0 ≤ S 82 2 ∧ S 82 2 ≤ 14) (v : Int) (hv : rI v) : gM Y l mX8_set S [.ref (yA Y 82), .int (iI v)] (pX S (cd_01 v) (S 84 4) (uq (mw S 84) 4 v)) := by
  refine gM_of (by decide) (Nat.le_of_ble_eq_true rfl) ?_
  intro X hXl B E
  obtain ⟨⟨hn0, hn16⟩, ⟨hb0, hb1⟩, ⟨hm0, hm1⟩, ⟨hs0, hs1⟩, ⟨hc0, hc1⟩, hct, hkw, how⟩ := wfT hw
  obtain ⟨hv0, hv1⟩ := hv
  show gW Y X S 0 [(0, .ref (yA Y 82)), (1, .int (iI v))] []
  refine g_aload_n (q := 1) B dX8_set_0 rfl 0 rfl ?_
  refine g_iload_n (q := 2) B dX8_set_1 rfl 1 rfl ?_
  refine g_i2l (q := 3) B dX8_set_2 rfl ⟨by omega, by omega⟩ ?_
  refine g_lconst (z := 0) (q := 4) B dX8_set_3 rfl rfl ?_
  refine g_lconst (z := 1) (q := 5) B dX8_set_4 rfl rfl ?_
  refine g_callS (q := 8) (As := [.long (lI v), .long (lI 0), .long (lI 1)]) (st := [.ref (yA Y 82)]) B dX8_set_5 rfl (c_X8_in (l := xL X) (S := S) v 0 1 ⟨by omega, by omega⟩ ⟨by omega, by omega⟩ ⟨by omega, by omega⟩) eX8_in w1001 (by decide) rfl rfl (Nat.le_of_ble_eq_true rfl) (g_kE ?_)
  refine g_ifb_eq (t := 15) (q := 11) B dX8_set_8 (by decide) rfl (fun cq8 => ?_) (fun cq8 => ?_)
  · refine g_iconst (q := 16) B dX8_set_15 rfl ?_
    refine g_callV (n := 82) (ty := tyX8) (q := 19) (As := [.int (iI 1)]) (st := []) B dX8_set_16 rfl (c_X8_refused (l := xL X) (S := S) 1 ⟨by omega, by omega⟩) eX8_refused w1004 (by decide) rfl rfl cls6 rfl rfl (Nat.le_of_ble_eq_true rfl) (g_kE ?_)
    have hwz : wf (mw (us S 82 ((uq (S 82) 0 1))) 84) := by rw [us82_84]; exact hw
    have e84_0 : (us S 82 ((uq (S 82) 0 1))) 84 0 = S 84 0 := rfl
    have e84_r : runsF (mw (us S 82 ((uq (S 82) 0 1))) 84) = runsF (mw S 84) := rfl
    refine g_ifb_eq (t := 24) (q := 22) B dX8_set_19 (by decide) rfl (fun cq19 => ?_) (fun cq19 => ?_)
    · exact absurd cq19 (by decide)
    · refine g_iconst (q := 23) B dX8_set_22 rfl ?_
      refine g_iret B E dX8_set_23 ?_
      exact pX_n 1 (by rw [cd_01]; (repeat' split) <;> omega) (by decide)
  · refine g_iconst (q := 12) B dX8_set_11 rfl ?_
    refine g_goto (q := 16) B dX8_set_12 (by decide) ?_
    refine g_callV (n := 82) (ty := tyX8) (q := 19) (As := [.int (iI 0)]) (st := []) B dX8_set_16 rfl (c_X8_refused (l := xL X) (S := S) 0 ⟨by omega, by omega⟩) eX8_refused w1004 (by decide) rfl rfl cls6 rfl rfl (Nat.le_of_ble_eq_true rfl) (g_kE ?_)
    have hwz : wf (mw (us S 82 ((uq (S 82) 0 0))) 84) := by rw [us82_84]; exact hw
    have e84_0 : (us S 82 ((uq (S 82) 0 0))) 84 0 = S 84 0 := rfl
    have e84_r : runsF (mw (us S 82 ((uq (S 82) 0 0))) 84) = runsF (mw S 84) := rfl
    refine g_ifb_eq (t := 24) (q := 22) B dX8_set_19 (by decide) rfl (fun cq19 => ?_) (fun cq19 => ?_)
    · refine g_aload_n (q := 25) B dX8_set_24 rfl 0 rfl ?_
      refine g_callV (n := 82) (ty := tyX8) (q := 28) (As := []) (st := []) B dX8_set_25 rfl (c_X8_remember (l := xL X) (S := (us S 82 ((uq (S 82) 0 0)))) ha) eX8_remember w1142 (by decide) (us_eq _ _ _) rfl cls6 rfl rfl (Nat.le_of_ble_eq_true rfl) (g_0E ?_)
      have hwy : wf (mw (rmU (us S 82 (uq (S 82) 0 0))) 84) := hw
      have e84_y : (rmU (us S 82 (uq (S 82) 0 0))) 84 0 = S 84 0 := rfl
      have e84_y1 : runsF (mw (rmU (us S 82 (uq (S 82) 0 0))) 84) = runsF (mw S 84) := rfl
      refine g_aload_n (q := 29) B dX8_set_28 rfl 0 rfl ?_
      refine g_get (n := 82) (ty := tyX8) (q := 32) (v := .ref (yA Y 84)) B dX8_set_29 rfl rfl rfl cls6 3 (by decide) w954 rfl ?_
      refine g_iconst (q := 33) B dX8_set_32 rfl ?_
      refine g_iald (n := 84) (q := 34) B dX8_set_33 rfl rfl rfl (by decide) (by omega) (by omega) ?_
      refine g_istore_n (q := 35) B dX8_set_34 rfl (by decide) (L' := [(2, .int (iI ((rmU (us S 82 ((uq (S 82) 0 0)))) 84 4))), (0, .ref (yA Y 82)), (1, .int (iI v))]) rfl ?_
      refine g_aload_n (q := 36) B dX8_set_35 rfl 1 rfl ?_
      refine g_get (n := 82) (ty := tyX8) (q := 39) (v := .ref (yA Y 84)) B dX8_set_36 rfl rfl rfl cls6 3 (by decide) w954 rfl ?_
      refine g_iconst (q := 40) B dX8_set_39 rfl ?_
      refine g_iload_n (q := 41) B dX8_set_40 rfl 2 rfl ?_
      refine g_iast (n := 84) (q := 42) B dX8_set_41 rfl rfl (fun _ => rfl) (by decide) (by omega) (by omega) ?_
      refine g_iload_n (q := 43) B dX8_set_42 rfl 0 rfl ?_
      refine g_iret B E dX8_set_43 ?_
      exact pX_0 (by rw [cd_01]; (repeat' split) <;> omega) rfl (mw_us (rmU (us S 82 (uq (S 82) 0 0))) 84 (by decide) (by decide)) fm_us
    · exact absurd cq19 (by decide)
set_option maxHeartbeats 4000000 in
theorem c_X8_gapWith {Y : gY} {l : Launch} {S : SS} (hw : wf (mw S 84)) (r o : Int) (hr : rI r) (ho : -1 ≤ o ∧ o ≤ 1) : gM Y l mX8_gapWith S [.ref (yA Y 82), .int (iI r), .int (iI o)] (pV (.int (iI (gapF (giveF (mw S 84) r o)))) (fun S' => fm S S' 85)) := by
  refine gM_of (by decide) (Nat.le_of_ble_eq_true rfl) ?_
  intro X hXl B E
  have hr2 := hr
  obtain ⟨hr0, hr1⟩ := hr2
  show gW Y X S 0 [(0, .ref (yA Y 82)), (1, .int (iI r)), (2, .int (iI o))] []
  refine g_aload_n (q := 1) B dX8_gapWith_0 rfl 0 rfl ?_
  refine g_get (n := 82) (ty := tyX8) (q := 4) (v := .ref (yA Y 84)) B dX8_gapWith_1 rfl rfl rfl cls6 3 (by decide) w954 rfl ?_
  refine g_iconst (q := 5) B dX8_gapWith_4 rfl ?_
  refine g_aload_n (q := 6) B dX8_gapWith_5 rfl 0 rfl ?_
  refine g_get (n := 82) (ty := tyX8) (q := 9) (v := .ref (yA Y 85)) B dX8_gapWith_6 rfl rfl rfl cls6 4 (by decide) w955 rfl ?_
  refine g_iconst (q := 10) B dX8_gapWith_9 rfl ?_
  refine g_callS (q := 13) (As := [.ref (yA Y 84), .int (iI 0), .ref (yA Y 85), .int (iI 0)]) (st := []) B dX8_gapWith_10 rfl (c_X8_copyState (l := xL X) (S := S) (Or.inl ⟨rfl, rfl⟩) (Or.inr (Or.inl ⟨rfl, rfl⟩)) (by decide) 0 0 (by omega) (by omega) (by omega) (by omega)) eX8_copyState w1105 (by decide) rfl rfl (Nat.le_of_ble_eq_true rfl) (g_0E ?_)
  refine g_aload_n (q := 14) B dX8_gapWith_13 rfl 0 rfl ?_
  refine g_get (n := 82) (ty := tyX8) (q := 17) (v := .ref (yA Y 85)) B dX8_gapWith_14 rfl ((us_ne _ _ (by omega)).trans rfl) rfl cls6 4 (by decide) w955 rfl ?_
  refine g_iload_n (q := 18) B dX8_gapWith_17 rfl 1 rfl ?_
  refine g_iload_n (q := 19) B dX8_gapWith_18 rfl 2 rfl ?_
  refine g_callS (q := 22) (As := [.ref (yA Y 85), .int (iI r), .int (iI o)]) (st := []) B dX8_gapWith_19 rfl (c_X8_giveOn (l := xL X) (S := (us S 85 ((cpF (S 85) (S 84) 0 0 54)))) (Or.inr rfl) (show wf (mw (us S 85 (cpF (S 85) (S 84) 0 0 54)) 85) by rw [mw_cp]; exact hw) r o hr ho) eX8_giveOn w1068 (by decide) rfl rfl (Nat.le_of_ble_eq_true rfl) (g_kV (fun Sy hSy => ?_))
  obtain ⟨hvSy, hfSy⟩ := hSy
  refine g_iret B E dX8_gapWith_22 ?_
  exact ⟨by rw [mw_cp], fm_us.tr hfSy⟩
set_option maxHeartbeats 4000000 in
theorem c_X8_ifGiven {Y : gY} {l : Launch} {S : SS} (hw : wf (mw S 84)) (r : Int) (hr : rI r) (o : Int) (ho : rI o) : gM Y l mX8_ifGiven S [.ref (yA Y 82), .int (iI r), .int (iI o)] (pT S (cd_give (mw S 84) r o) (gapF (giveF (mw S 84) r o))) := by
  refine gM_of (by decide) (Nat.le_of_ble_eq_true rfl) ?_
  intro X hXl B E
  obtain ⟨⟨hn0, hn16⟩, ⟨hb0, hb1⟩, ⟨hm0, hm1⟩, ⟨hs0, hs1⟩, ⟨hc0, hc1⟩, hct, hkw, how⟩ := wfT hw
  obtain ⟨hr0, hr1⟩ := hr
  obtain ⟨ho0, ho1⟩ := ho
  show gW Y X S 0 [(0, .ref (yA Y 82)), (1, .int (iI r)), (2, .int (iI o))] []
  refine g_aload_n (q := 1) B dX8_ifGiven_0 rfl 0 rfl ?_
  refine g_aload_n (q := 2) B dX8_ifGiven_1 rfl 0 rfl ?_
  refine g_get (n := 82) (ty := tyX8) (q := 5) (v := .ref (yA Y 84)) B dX8_ifGiven_2 rfl rfl rfl cls6 3 (by decide) w954 rfl ?_
  refine g_iload_n (q := 6) B dX8_ifGiven_5 rfl 1 rfl ?_
  refine g_callS (q := 9) (As := [.ref (yA Y 84), .int (iI r)]) (st := [.ref (yA Y 82)]) B dX8_ifGiven_6 rfl (c_X8_isRun (l := xL X) (S := S) (Or.inl rfl) (wf.b hw) r ⟨by omega, by omega⟩) eX8_isRun w1065 (by decide) rfl rfl (Nat.le_of_ble_eq_true rfl) (g_kE ?_)
  have := runsF_in (mw S 84)
  refine g_ifb_ne (t := 16) (q := 12) B dX8_ifGiven_9 (by decide) rfl (fun cq9 => ?_) (fun cq9 => ?_)
  · refine g_iload_n (q := 17) B dX8_ifGiven_16 rfl 2 rfl ?_
    refine g_callS (q := 20) (As := [.int (iI o)]) (st := [.ref (yA Y 82)]) B dX8_ifGiven_17 rfl (c_X8_isOwner (l := xL X) (S := S) o ⟨by omega, by omega⟩) eX8_isOwner w1166 (by decide) rfl rfl (Nat.le_of_ble_eq_true rfl) (g_kE ?_)
    refine g_ifb_eq (t := 27) (q := 23) B dX8_ifGiven_20 (by decide) rfl (fun cq20 => ?_) (fun cq20 => ?_)
    · refine g_iconst (q := 28) B dX8_ifGiven_27 rfl ?_
      refine g_callV (n := 82) (ty := tyX8) (q := 31) (As := [.int (iI 2)]) (st := []) B dX8_ifGiven_28 rfl (c_X8_refused (l := xL X) (S := S) 2 ⟨by omega, by omega⟩) eX8_refused w1004 (by decide) rfl rfl cls6 rfl rfl (Nat.le_of_ble_eq_true rfl) (g_kE ?_)
      have hwz : wf (mw (us S 82 ((uq (S 82) 0 2))) 84) := by rw [us82_84]; exact hw
      have e84_0 : (us S 82 ((uq (S 82) 0 2))) 84 0 = S 84 0 := rfl
      have e84_r : runsF (mw (us S 82 ((uq (S 82) 0 2))) 84) = runsF (mw S 84) := rfl
      refine g_ifb_eq (t := 36) (q := 34) B dX8_ifGiven_31 (by decide) rfl (fun cq31 => ?_) (fun cq31 => ?_)
      · exact absurd cq31 (by decide)
      · refine g_iconst (q := 35) B dX8_ifGiven_34 rfl ?_
        refine g_iret B E dX8_ifGiven_35 ?_
        exact pT_n 2 (by rw [cd_give]; (repeat' split) <;> omega) (by decide)
    · refine g_iconst (q := 24) B dX8_ifGiven_23 rfl ?_
      refine g_goto (q := 28) B dX8_ifGiven_24 (by decide) ?_
      refine g_callV (n := 82) (ty := tyX8) (q := 31) (As := [.int (iI 0)]) (st := []) B dX8_ifGiven_28 rfl (c_X8_refused (l := xL X) (S := S) 0 ⟨by omega, by omega⟩) eX8_refused w1004 (by decide) rfl rfl cls6 rfl rfl (Nat.le_of_ble_eq_true rfl) (g_kE ?_)
      have hwz : wf (mw (us S 82 ((uq (S 82) 0 0))) 84) := by rw [us82_84]; exact hw
      have e84_0 : (us S 82 ((uq (S 82) 0 0))) 84 0 = S 84 0 := rfl
      have e84_r : runsF (mw (us S 82 ((uq (S 82) 0 0))) 84) = runsF (mw S 84) := rfl
      refine g_ifb_eq (t := 36) (q := 34) B dX8_ifGiven_31 (by decide) rfl (fun cq31 => ?_) (fun cq31 => ?_)
      · refine g_aload_n (q := 37) B dX8_ifGiven_36 rfl 0 rfl ?_
        refine g_iload_n (q := 38) B dX8_ifGiven_37 rfl 1 rfl ?_
        refine g_iload_n (q := 39) B dX8_ifGiven_38 rfl 2 rfl ?_
        refine g_callV (n := 82) (ty := tyX8) (q := 42) (As := [.int (iI r), .int (iI o)]) (st := []) B dX8_ifGiven_39 rfl (c_X8_gapWith (l := xL X) (S := (us S 82 ((uq (S 82) 0 0)))) hwz r o ⟨by omega, by omega⟩ (by omega)) eX8_gapWith w1235 (by decide) (us_eq _ _ _) rfl cls6 rfl rfl (Nat.le_of_ble_eq_true rfl) (g_kV (fun Sy hSy => ?_))
        have := gapF_in (wf_give hwz r (o := o) (by omega))
        refine g_iret B E dX8_ifGiven_42 ?_
        exact pT_0 (by rw [cd_give]; (repeat' split) <;> omega) (by first | rfl | simp only [us82_84] | simp only [us82_84, hvSy]) hSy
      · exact absurd cq31 (by decide)
  · refine g_iconst (q := 13) B dX8_ifGiven_12 rfl ?_
    refine g_goto (q := 28) B dX8_ifGiven_13 (by decide) ?_
    refine g_callV (n := 82) (ty := tyX8) (q := 31) (As := [.int (iI 1)]) (st := []) B dX8_ifGiven_28 rfl (c_X8_refused (l := xL X) (S := S) 1 ⟨by omega, by omega⟩) eX8_refused w1004 (by decide) rfl rfl cls6 rfl rfl (Nat.le_of_ble_eq_true rfl) (g_kE ?_)
    have hwz : wf (mw (us S 82 ((uq (S 82) 0 1))) 84) := by rw [us82_84]; exact hw
    have e84_0 : (us S 82 ((uq (S 82) 0 1))) 84 0 = S 84 0 := rfl
    have e84_r : runsF (mw (us S 82 ((uq (S 82) 0 1))) 84) = runsF (mw S 84) := rfl
    refine g_ifb_eq (t := 36) (q := 34) B dX8_ifGiven_31 (by decide) rfl (fun cq31 => ?_) (fun cq31 => ?_)
    · exact absurd cq31 (by decide)
    · refine g_iconst (q := 35) B dX8_ifGiven_34 rfl ?_
      refine g_iret B E dX8_ifGiven_35 ?_
      exact pT_n 1 (by rw [cd_give]; (repeat' split) <;> omega) (by decide)
set_option maxHeartbeats 4000000 in
theorem c_X8_bestRun {Y : gY} {l : Launch} {S : SS} (hw : wf (mw S 84)) : gM Y l mX8_bestRun S [.ref (yA Y 82)] (pT S (0) ((brG (mw S 84) (runsF (mw S 84)).toNat).1)) := by
  refine gM_of (by decide) (Nat.le_of_ble_eq_true rfl) ?_
  intro X hXl B E
  obtain ⟨⟨hn0, hn16⟩, ⟨hb0, hb1⟩, ⟨hm0, hm1⟩, ⟨hs0, hs1⟩, ⟨hc0, hc1⟩, hct, hkw, how⟩ := wfT hw
  have hrr := runsF_in (mw S 84)
  show gW Y X S 0 [(0, .ref (yA Y 82))] []
  have lp11 : ∀ (fu : Nat) (n : Nat) (Sx : SS) (x1 x2 x3 : Int) , x1 = ((brG (mw S 84) n).1) → x2 = ((brG (mw S 84) n).2) → x3 = ((n : Int)) → (n : Int) ≤ runsF (mw S 84) → fm (us S 82 (uq (S 82) 0 0)) Sx 85 → 17 - n < fu → gW Y X Sx 11 [(0, .ref (yA Y 82)), (1, .int (iI x1)), (2, .int (iI x2)), (3, .int (iI x3))] [] := by
    intro fu
    induction fu with
    | zero =>
      intro n Sx x1 x2 x3 e_x1 e_x2 e_x3 hn hf hfu
      exact absurd hfu (Nat.not_lt_zero _)
    | succ fu ih =>
      intro n Sx x1 x2 x3 e_x1 e_x2 e_x3 hn hf hfu
      subst e_x1
      subst e_x2
      subst e_x3
      have e84 : Sx 84 = S 84 := hf 84 (by decide)
      have em : mw Sx 84 = mw S 84 := by funext b; unfold mw; rw [e84]
      have hwz : wf (mw Sx 84) := by rw [em]; exact hw
      have hbi := brG_in hw n
      have hrr2 : runsF (mw Sx 84) = runsF (mw S 84) := by rw [em]
      have hwy := whyF_in (mw S 84) n
      have e2 : Sx 84 2 = S 84 2 := by rw [e84]
      have hwy2 : whyF (mw Sx 84) n = whyF (mw S 84) n := by rw [em]
      refine g_iload_n (q := 12) B dX8_bestRun_11 rfl 3 rfl ?_
      refine g_aload_n (q := 13) B dX8_bestRun_12 rfl 0 rfl ?_
      refine g_get (n := 82) (ty := tyX8) (q := 16) (v := .ref (yA Y 84)) B dX8_bestRun_13 rfl rfl rfl cls6 3 (by decide) w954 rfl ?_
      refine g_callS (q := 19) (As := [.ref (yA Y 84)]) (st := [.int (iI ((n : Int)))]) B dX8_bestRun_16 rfl (c_X8_runs (l := xL X) (S := Sx) (Or.inl rfl) (wf.b hwz)  ) eX8_runs w1059 (by decide) rfl rfl (Nat.le_of_ble_eq_true rfl) (g_kE ?_)
      have := runsF_in (mw Sx 84)
      refine g_icmp_ge (t := 103) (q := 22) B dX8_bestRun_19 (by decide) rfl ⟨by omega, by omega⟩ ⟨by omega, by omega⟩ (fun cq19 => ?_) (fun cq19 => ?_)
      · refine g_iload_n (q := 104) B dX8_bestRun_103 rfl 1 rfl ?_
        refine g_iret B E dX8_bestRun_104 ?_
        exact pT_0 rfl (by rw [show (runsF (mw S 84)).toNat = n by omega]) hf
      · refine g_aload_n (q := 23) B dX8_bestRun_22 rfl 0 rfl ?_
        refine g_get (n := 82) (ty := tyX8) (q := 26) (v := .ref (yA Y 84)) B dX8_bestRun_23 rfl rfl rfl cls6 3 (by decide) w954 rfl ?_
        refine g_iload_n (q := 27) B dX8_bestRun_26 rfl 3 rfl ?_
        refine g_callS (q := 30) (As := [.ref (yA Y 84), .int (iI ((n : Int)))]) (st := []) B dX8_bestRun_27 rfl (c_X8_whyNot (l := xL X) (S := Sx) (Or.inl rfl) hwz ((n : Int)) (by omega) (by omega)) eX8_whyNot w1083 (by decide) rfl rfl (Nat.le_of_ble_eq_true rfl) (g_kE ?_)
        have := whyF_in (mw Sx 84) ((n : Int))
        refine g_if_ne (t := 47) (q := 33) B dX8_bestRun_30 (by decide) rfl ⟨by omega, by omega⟩ (fun cq30 => ?_) (fun cq30 => ?_)
        · refine g_iconst (q := 48) B dX8_bestRun_47 rfl ?_
          refine g_istore (q := 50) B dX8_bestRun_48 rfl (by decide) (L' := [(4, .int (iI (-1))), (0, .ref (yA Y 82)), (1, .int (iI ((brG (mw S 84) n).1))), (2, .int (iI ((brG (mw S 84) n).2))), (3, .int (iI ((n : Int))))]) rfl ?_
          refine g_iload (q := 52) B dX8_bestRun_50 rfl 0 rfl ?_
          refine g_iconst (q := 53) B dX8_bestRun_52 rfl ?_
          refine g_icmp_eq (t := 71) (q := 56) B dX8_bestRun_53 (by decide) rfl ⟨by omega, by omega⟩ ⟨by omega, by omega⟩ (fun cq53 => ?_) (fun cq53 => ?_)
          · refine g_iconst (q := 72) B dX8_bestRun_71 rfl ?_
            refine g_istore (q := 74) B dX8_bestRun_72 rfl (by decide) (L' := [(5, .int (iI 0)), (4, .int (iI (-1))), (0, .ref (yA Y 82)), (1, .int (iI ((brG (mw S 84) n).1))), (2, .int (iI ((brG (mw S 84) n).2))), (3, .int (iI ((n : Int))))]) rfl ?_
            refine g_iload (q := 76) B dX8_bestRun_74 rfl 0 rfl ?_
            refine g_if_eq (t := 83) (q := 79) B dX8_bestRun_76 (by decide) rfl ⟨by omega, by omega⟩ (fun cq76 => ?_) (fun cq76 => ?_)
            · refine g_iload_n (q := 84) B dX8_bestRun_83 rfl 3 rfl ?_
              refine g_istore_n (q := 85) B dX8_bestRun_84 rfl (by decide) (L' := [(1, .int (iI ((brG (mw S 84) n).1))), (5, .int (iI 0)), (4, .int (iI (-1))), (0, .ref (yA Y 82)), (2, .int (iI ((brG (mw S 84) n).2))), (3, .int (iI ((n : Int))))]) rfl ?_
              refine g_iload (q := 87) B dX8_bestRun_85 rfl 1 rfl ?_
              refine g_if_eq (t := 95) (q := 90) B dX8_bestRun_87 (by decide) rfl ⟨by omega, by omega⟩ (fun cq87 => ?_) (fun cq87 => ?_)
              · refine g_iload_n (q := 96) B dX8_bestRun_95 rfl 4 rfl ?_
                refine g_istore_n (q := 97) B dX8_bestRun_96 rfl (by decide) (L' := [(2, .int (iI ((brG (mw S 84) n).2))), (1, .int (iI ((brG (mw S 84) n).1))), (5, .int (iI 0)), (4, .int (iI (-1))), (0, .ref (yA Y 82)), (3, .int (iI ((n : Int))))]) rfl ?_
                refine g_iinc (n := 5) (q := 100) B dX8_bestRun_97 rfl rfl (by decide) (L' := [(3, .int (iI ((n : Int) + 1))), (2, .int (iI ((brG (mw S 84) n).2))), (1, .int (iI ((brG (mw S 84) n).1))), (5, .int (iI 0)), (4, .int (iI (-1))), (0, .ref (yA Y 82))]) rfl ?_
                refine g_goto (q := 11) B dX8_bestRun_100 (by decide) ?_
                refine g_sub [5, 2, 1, 0] rfl ?_
                have b1 := brG_s1 (mw S 84) n
                have b2 := brG_s2 (mw S 84) n
                have bt : brT (mw S 84) n = -1 := by rw [brT, if_neg (by omega)]
                exact ih (n + 1) _ _ _ _ (by rw [b1]; split <;> omega) (by rw [b2]; split <;> omega) (by first | rfl | omega) (by first | assumption | omega) (by exact hf) (by omega)
              · refine g_iload (q := 92) B dX8_bestRun_90 rfl 2 rfl ?_
                refine g_goto (q := 96) B dX8_bestRun_92 (by decide) ?_
                refine g_istore_n (q := 97) B dX8_bestRun_96 rfl (by decide) (L' := [(2, .int (iI (-1))), (1, .int (iI ((brG (mw S 84) n).1))), (5, .int (iI 0)), (4, .int (iI (-1))), (0, .ref (yA Y 82)), (3, .int (iI ((n : Int))))]) rfl ?_
                refine g_iinc (n := 5) (q := 100) B dX8_bestRun_97 rfl rfl (by decide) (L' := [(3, .int (iI ((n : Int) + 1))), (2, .int (iI (-1))), (1, .int (iI ((brG (mw S 84) n).1))), (5, .int (iI 0)), (4, .int (iI (-1))), (0, .ref (yA Y 82))]) rfl ?_
                refine g_goto (q := 11) B dX8_bestRun_100 (by decide) ?_
                refine g_sub [5, 2, 1, 0] rfl ?_
                have b1 := brG_s1 (mw S 84) n
                have b2 := brG_s2 (mw S 84) n
                have bt : brT (mw S 84) n = -1 := by rw [brT, if_neg (by omega)]
                exact ih (n + 1) _ _ _ _ (by rw [b1]; split <;> omega) (by rw [b2]; split <;> omega) (by first | rfl | omega) (by first | assumption | omega) (by exact hf) (by omega)
            · refine g_iload_n (q := 80) B dX8_bestRun_79 rfl 5 rfl ?_
              refine g_goto (q := 84) B dX8_bestRun_80 (by decide) ?_
              refine g_istore_n (q := 85) B dX8_bestRun_84 rfl (by decide) (L' := [(1, .int (iI ((n : Int)))), (5, .int (iI 0)), (4, .int (iI (-1))), (0, .ref (yA Y 82)), (2, .int (iI ((brG (mw S 84) n).2))), (3, .int (iI ((n : Int))))]) rfl ?_
              refine g_iload (q := 87) B dX8_bestRun_85 rfl 1 rfl ?_
              refine g_if_eq (t := 95) (q := 90) B dX8_bestRun_87 (by decide) rfl ⟨by omega, by omega⟩ (fun cq87 => ?_) (fun cq87 => ?_)
              · refine g_iload_n (q := 96) B dX8_bestRun_95 rfl 4 rfl ?_
                refine g_istore_n (q := 97) B dX8_bestRun_96 rfl (by decide) (L' := [(2, .int (iI ((brG (mw S 84) n).2))), (1, .int (iI ((n : Int)))), (5, .int (iI 0)), (4, .int (iI (-1))), (0, .ref (yA Y 82)), (3, .int (iI ((n : Int))))]) rfl ?_
                refine g_iinc (n := 5) (q := 100) B dX8_bestRun_97 rfl rfl (by decide) (L' := [(3, .int (iI ((n : Int) + 1))), (2, .int (iI ((brG (mw S 84) n).2))), (1, .int (iI ((n : Int)))), (5, .int (iI 0)), (4, .int (iI (-1))), (0, .ref (yA Y 82))]) rfl ?_
                refine g_goto (q := 11) B dX8_bestRun_100 (by decide) ?_
                refine g_sub [5, 2, 1, 0] rfl ?_
                have b1 := brG_s1 (mw S 84) n
                have b2 := brG_s2 (mw S 84) n
                have bt : brT (mw S 84) n = -1 := by rw [brT, if_neg (by omega)]
                exact ih (n + 1) _ _ _ _ (by rw [b1]; split <;> omega) (by rw [b2]; split <;> omega) (by first | rfl | omega) (by first | assumption | omega) (by exact hf) (by omega)
              · refine g_iload (q := 92) B dX8_bestRun_90 rfl 2 rfl ?_
                refine g_goto (q := 96) B dX8_bestRun_92 (by decide) ?_
                refine g_istore_n (q := 97) B dX8_bestRun_96 rfl (by decide) (L' := [(2, .int (iI (-1))), (1, .int (iI ((n : Int)))), (5, .int (iI 0)), (4, .int (iI (-1))), (0, .ref (yA Y 82)), (3, .int (iI ((n : Int))))]) rfl ?_
                refine g_iinc (n := 5) (q := 100) B dX8_bestRun_97 rfl rfl (by decide) (L' := [(3, .int (iI ((n : Int) + 1))), (2, .int (iI (-1))), (1, .int (iI ((n : Int)))), (5, .int (iI 0)), (4, .int (iI (-1))), (0, .ref (yA Y 82))]) rfl ?_
                refine g_goto (q := 11) B dX8_bestRun_100 (by decide) ?_
                refine g_sub [5, 2, 1, 0] rfl ?_
                have b1 := brG_s1 (mw S 84) n
                have b2 := brG_s2 (mw S 84) n
                have bt : brT (mw S 84) n = -1 := by rw [brT, if_neg (by omega)]
                exact ih (n + 1) _ _ _ _ (by rw [b1]; split <;> omega) (by rw [b2]; split <;> omega) (by first | rfl | omega) (by first | assumption | omega) (by exact hf) (by omega)
          · refine g_iload_n (q := 57) B dX8_bestRun_56 rfl 2 rfl ?_
            refine g_iconst (q := 58) B dX8_bestRun_57 rfl ?_
            refine g_icmp_eq (t := 67) (q := 61) B dX8_bestRun_58 (by decide) rfl ⟨by omega, by omega⟩ ⟨by omega, by omega⟩ (fun cq58 => ?_) (fun cq58 => ?_)
            · refine g_iconst (q := 68) B dX8_bestRun_67 rfl ?_
              refine g_goto (q := 72) B dX8_bestRun_68 (by decide) ?_
              refine g_istore (q := 74) B dX8_bestRun_72 rfl (by decide) (L' := [(5, .int (iI 1)), (4, .int (iI (-1))), (0, .ref (yA Y 82)), (1, .int (iI ((brG (mw S 84) n).1))), (2, .int (iI ((brG (mw S 84) n).2))), (3, .int (iI ((n : Int))))]) rfl ?_
              refine g_iload (q := 76) B dX8_bestRun_74 rfl 0 rfl ?_
              refine g_if_eq (t := 83) (q := 79) B dX8_bestRun_76 (by decide) rfl ⟨by omega, by omega⟩ (fun cq76 => ?_) (fun cq76 => ?_)
              · refine g_iload_n (q := 84) B dX8_bestRun_83 rfl 3 rfl ?_
                refine g_istore_n (q := 85) B dX8_bestRun_84 rfl (by decide) (L' := [(1, .int (iI ((brG (mw S 84) n).1))), (5, .int (iI 1)), (4, .int (iI (-1))), (0, .ref (yA Y 82)), (2, .int (iI ((brG (mw S 84) n).2))), (3, .int (iI ((n : Int))))]) rfl ?_
                refine g_iload (q := 87) B dX8_bestRun_85 rfl 1 rfl ?_
                refine g_if_eq (t := 95) (q := 90) B dX8_bestRun_87 (by decide) rfl ⟨by omega, by omega⟩ (fun cq87 => ?_) (fun cq87 => ?_)
                · refine g_iload_n (q := 96) B dX8_bestRun_95 rfl 4 rfl ?_
                  refine g_istore_n (q := 97) B dX8_bestRun_96 rfl (by decide) (L' := [(2, .int (iI ((brG (mw S 84) n).2))), (1, .int (iI ((brG (mw S 84) n).1))), (5, .int (iI 1)), (4, .int (iI (-1))), (0, .ref (yA Y 82)), (3, .int (iI ((n : Int))))]) rfl ?_
                  refine g_iinc (n := 5) (q := 100) B dX8_bestRun_97 rfl rfl (by decide) (L' := [(3, .int (iI ((n : Int) + 1))), (2, .int (iI ((brG (mw S 84) n).2))), (1, .int (iI ((brG (mw S 84) n).1))), (5, .int (iI 1)), (4, .int (iI (-1))), (0, .ref (yA Y 82))]) rfl ?_
                  refine g_goto (q := 11) B dX8_bestRun_100 (by decide) ?_
                  refine g_sub [5, 2, 1, 0] rfl ?_
                  have b1 := brG_s1 (mw S 84) n
                  have b2 := brG_s2 (mw S 84) n
                  have bt : brT (mw S 84) n = -1 := by rw [brT, if_neg (by omega)]
                  exact ih (n + 1) _ _ _ _ (by rw [b1]; split <;> omega) (by rw [b2]; split <;> omega) (by first | rfl | omega) (by first | assumption | omega) (by exact hf) (by omega)
                · refine g_iload (q := 92) B dX8_bestRun_90 rfl 2 rfl ?_
                  refine g_goto (q := 96) B dX8_bestRun_92 (by decide) ?_
                  refine g_istore_n (q := 97) B dX8_bestRun_96 rfl (by decide) (L' := [(2, .int (iI (-1))), (1, .int (iI ((brG (mw S 84) n).1))), (5, .int (iI 1)), (4, .int (iI (-1))), (0, .ref (yA Y 82)), (3, .int (iI ((n : Int))))]) rfl ?_
                  refine g_iinc (n := 5) (q := 100) B dX8_bestRun_97 rfl rfl (by decide) (L' := [(3, .int (iI ((n : Int) + 1))), (2, .int (iI (-1))), (1, .int (iI ((brG (mw S 84) n).1))), (5, .int (iI 1)), (4, .int (iI (-1))), (0, .ref (yA Y 82))]) rfl ?_
                  refine g_goto (q := 11) B dX8_bestRun_100 (by decide) ?_
                  refine g_sub [5, 2, 1, 0] rfl ?_
                  have b1 := brG_s1 (mw S 84) n
                  have b2 := brG_s2 (mw S 84) n
                  have bt : brT (mw S 84) n = -1 := by rw [brT, if_neg (by omega)]
                  exact ih (n + 1) _ _ _ _ (by rw [b1]; split <;> omega) (by rw [b2]; split <;> omega) (by first | rfl | omega) (by first | assumption | omega) (by exact hf) (by omega)
              · refine g_iload_n (q := 80) B dX8_bestRun_79 rfl 5 rfl ?_
                refine g_goto (q := 84) B dX8_bestRun_80 (by decide) ?_
                refine g_istore_n (q := 85) B dX8_bestRun_84 rfl (by decide) (L' := [(1, .int (iI ((n : Int)))), (5, .int (iI 1)), (4, .int (iI (-1))), (0, .ref (yA Y 82)), (2, .int (iI ((brG (mw S 84) n).2))), (3, .int (iI ((n : Int))))]) rfl ?_
                refine g_iload (q := 87) B dX8_bestRun_85 rfl 1 rfl ?_
                refine g_if_eq (t := 95) (q := 90) B dX8_bestRun_87 (by decide) rfl ⟨by omega, by omega⟩ (fun cq87 => ?_) (fun cq87 => ?_)
                · refine g_iload_n (q := 96) B dX8_bestRun_95 rfl 4 rfl ?_
                  refine g_istore_n (q := 97) B dX8_bestRun_96 rfl (by decide) (L' := [(2, .int (iI ((brG (mw S 84) n).2))), (1, .int (iI ((n : Int)))), (5, .int (iI 1)), (4, .int (iI (-1))), (0, .ref (yA Y 82)), (3, .int (iI ((n : Int))))]) rfl ?_
                  refine g_iinc (n := 5) (q := 100) B dX8_bestRun_97 rfl rfl (by decide) (L' := [(3, .int (iI ((n : Int) + 1))), (2, .int (iI ((brG (mw S 84) n).2))), (1, .int (iI ((n : Int)))), (5, .int (iI 1)), (4, .int (iI (-1))), (0, .ref (yA Y 82))]) rfl ?_
                  refine g_goto (q := 11) B dX8_bestRun_100 (by decide) ?_
                  refine g_sub [5, 2, 1, 0] rfl ?_
                  have b1 := brG_s1 (mw S 84) n
                  have b2 := brG_s2 (mw S 84) n
                  have bt : brT (mw S 84) n = -1 := by rw [brT, if_neg (by omega)]
                  exact ih (n + 1) _ _ _ _ (by rw [b1]; split <;> omega) (by rw [b2]; split <;> omega) (by first | rfl | omega) (by first | assumption | omega) (by exact hf) (by omega)
                · refine g_iload (q := 92) B dX8_bestRun_90 rfl 2 rfl ?_
                  refine g_goto (q := 96) B dX8_bestRun_92 (by decide) ?_
                  refine g_istore_n (q := 97) B dX8_bestRun_96 rfl (by decide) (L' := [(2, .int (iI (-1))), (1, .int (iI ((n : Int)))), (5, .int (iI 1)), (4, .int (iI (-1))), (0, .ref (yA Y 82)), (3, .int (iI ((n : Int))))]) rfl ?_
                  refine g_iinc (n := 5) (q := 100) B dX8_bestRun_97 rfl rfl (by decide) (L' := [(3, .int (iI ((n : Int) + 1))), (2, .int (iI (-1))), (1, .int (iI ((n : Int)))), (5, .int (iI 1)), (4, .int (iI (-1))), (0, .ref (yA Y 82))]) rfl ?_
                  refine g_goto (q := 11) B dX8_bestRun_100 (by decide) ?_
                  refine g_sub [5, 2, 1, 0] rfl ?_
                  have b1 := brG_s1 (mw S 84) n
                  have b2 := brG_s2 (mw S 84) n
                  have bt : brT (mw S 84) n = -1 := by rw [brT, if_neg (by omega)]
                  exact ih (n + 1) _ _ _ _ (by rw [b1]; split <;> omega) (by rw [b2]; split <;> omega) (by first | rfl | omega) (by first | assumption | omega) (by exact hf) (by omega)
            · refine g_iload (q := 63) B dX8_bestRun_61 rfl 0 rfl ?_
              refine g_iload_n (q := 64) B dX8_bestRun_63 rfl 3 rfl ?_
              refine g_icmp_ge (t := 71) (q := 67) B dX8_bestRun_64 (by decide) rfl ⟨by omega, by omega⟩ ⟨by omega, by omega⟩ (fun cq64 => ?_) (fun cq64 => ?_)
              · refine g_iconst (q := 72) B dX8_bestRun_71 rfl ?_
                refine g_istore (q := 74) B dX8_bestRun_72 rfl (by decide) (L' := [(5, .int (iI 0)), (4, .int (iI (-1))), (0, .ref (yA Y 82)), (1, .int (iI ((brG (mw S 84) n).1))), (2, .int (iI ((brG (mw S 84) n).2))), (3, .int (iI ((n : Int))))]) rfl ?_
                refine g_iload (q := 76) B dX8_bestRun_74 rfl 0 rfl ?_
                refine g_if_eq (t := 83) (q := 79) B dX8_bestRun_76 (by decide) rfl ⟨by omega, by omega⟩ (fun cq76 => ?_) (fun cq76 => ?_)
                · refine g_iload_n (q := 84) B dX8_bestRun_83 rfl 3 rfl ?_
                  refine g_istore_n (q := 85) B dX8_bestRun_84 rfl (by decide) (L' := [(1, .int (iI ((brG (mw S 84) n).1))), (5, .int (iI 0)), (4, .int (iI (-1))), (0, .ref (yA Y 82)), (2, .int (iI ((brG (mw S 84) n).2))), (3, .int (iI ((n : Int))))]) rfl ?_
                  refine g_iload (q := 87) B dX8_bestRun_85 rfl 1 rfl ?_
                  refine g_if_eq (t := 95) (q := 90) B dX8_bestRun_87 (by decide) rfl ⟨by omega, by omega⟩ (fun cq87 => ?_) (fun cq87 => ?_)
                  · refine g_iload_n (q := 96) B dX8_bestRun_95 rfl 4 rfl ?_
                    refine g_istore_n (q := 97) B dX8_bestRun_96 rfl (by decide) (L' := [(2, .int (iI ((brG (mw S 84) n).2))), (1, .int (iI ((brG (mw S 84) n).1))), (5, .int (iI 0)), (4, .int (iI (-1))), (0, .ref (yA Y 82)), (3, .int (iI ((n : Int))))]) rfl ?_
                    refine g_iinc (n := 5) (q := 100) B dX8_bestRun_97 rfl rfl (by decide) (L' := [(3, .int (iI ((n : Int) + 1))), (2, .int (iI ((brG (mw S 84) n).2))), (1, .int (iI ((brG (mw S 84) n).1))), (5, .int (iI 0)), (4, .int (iI (-1))), (0, .ref (yA Y 82))]) rfl ?_
                    refine g_goto (q := 11) B dX8_bestRun_100 (by decide) ?_
                    refine g_sub [5, 2, 1, 0] rfl ?_
                    have b1 := brG_s1 (mw S 84) n
                    have b2 := brG_s2 (mw S 84) n
                    have bt : brT (mw S 84) n = -1 := by rw [brT, if_neg (by omega)]
                    exact ih (n + 1) _ _ _ _ (by rw [b1]; split <;> omega) (by rw [b2]; split <;> omega) (by first | rfl | omega) (by first | assumption | omega) (by exact hf) (by omega)
                  · refine g_iload (q := 92) B dX8_bestRun_90 rfl 2 rfl ?_
                    refine g_goto (q := 96) B dX8_bestRun_92 (by decide) ?_
                    refine g_istore_n (q := 97) B dX8_bestRun_96 rfl (by decide) (L' := [(2, .int (iI (-1))), (1, .int (iI ((brG (mw S 84) n).1))), (5, .int (iI 0)), (4, .int (iI (-1))), (0, .ref (yA Y 82)), (3, .int (iI ((n : Int))))]) rfl ?_
                    refine g_iinc (n := 5) (q := 100) B dX8_bestRun_97 rfl rfl (by decide) (L' := [(3, .int (iI ((n : Int) + 1))), (2, .int (iI (-1))), (1, .int (iI ((brG (mw S 84) n).1))), (5, .int (iI 0)), (4, .int (iI (-1))), (0, .ref (yA Y 82))]) rfl ?_
                    refine g_goto (q := 11) B dX8_bestRun_100 (by decide) ?_
                    refine g_sub [5, 2, 1, 0] rfl ?_
                    have b1 := brG_s1 (mw S 84) n
                    have b2 := brG_s2 (mw S 84) n
                    have bt : brT (mw S 84) n = -1 := by rw [brT, if_neg (by omega)]
                    exact ih (n + 1) _ _ _ _ (by rw [b1]; split <;> omega) (by rw [b2]; split <;> omega) (by first | rfl | omega) (by first | assumption | omega) (by exact hf) (by omega)
                · refine g_iload_n (q := 80) B dX8_bestRun_79 rfl 5 rfl ?_
                  refine g_goto (q := 84) B dX8_bestRun_80 (by decide) ?_
                  refine g_istore_n (q := 85) B dX8_bestRun_84 rfl (by decide) (L' := [(1, .int (iI ((n : Int)))), (5, .int (iI 0)), (4, .int (iI (-1))), (0, .ref (yA Y 82)), (2, .int (iI ((brG (mw S 84) n).2))), (3, .int (iI ((n : Int))))]) rfl ?_
                  refine g_iload (q := 87) B dX8_bestRun_85 rfl 1 rfl ?_
                  refine g_if_eq (t := 95) (q := 90) B dX8_bestRun_87 (by decide) rfl ⟨by omega, by omega⟩ (fun cq87 => ?_) (fun cq87 => ?_)
                  · refine g_iload_n (q := 96) B dX8_bestRun_95 rfl 4 rfl ?_
                    refine g_istore_n (q := 97) B dX8_bestRun_96 rfl (by decide) (L' := [(2, .int (iI ((brG (mw S 84) n).2))), (1, .int (iI ((n : Int)))), (5, .int (iI 0)), (4, .int (iI (-1))), (0, .ref (yA Y 82)), (3, .int (iI ((n : Int))))]) rfl ?_
                    refine g_iinc (n := 5) (q := 100) B dX8_bestRun_97 rfl rfl (by decide) (L' := [(3, .int (iI ((n : Int) + 1))), (2, .int (iI ((brG (mw S 84) n).2))), (1, .int (iI ((n : Int)))), (5, .int (iI 0)), (4, .int (iI (-1))), (0, .ref (yA Y 82))]) rfl ?_
                    refine g_goto (q := 11) B dX8_bestRun_100 (by decide) ?_
                    refine g_sub [5, 2, 1, 0] rfl ?_
                    have b1 := brG_s1 (mw S 84) n
                    have b2 := brG_s2 (mw S 84) n
                    have bt : brT (mw S 84) n = -1 := by rw [brT, if_neg (by omega)]
                    exact ih (n + 1) _ _ _ _ (by rw [b1]; split <;> omega) (by rw [b2]; split <;> omega) (by first | rfl | omega) (by first | assumption | omega) (by exact hf) (by omega)
                  · refine g_iload (q := 92) B dX8_bestRun_90 rfl 2 rfl ?_
                    refine g_goto (q := 96) B dX8_bestRun_92 (by decide) ?_
                    refine g_istore_n (q := 97) B dX8_bestRun_96 rfl (by decide) (L' := [(2, .int (iI (-1))), (1, .int (iI ((n : Int)))), (5, .int (iI 0)), (4, .int (iI (-1))), (0, .ref (yA Y 82)), (3, .int (iI ((n : Int))))]) rfl ?_
                    refine g_iinc (n := 5) (q := 100) B dX8_bestRun_97 rfl rfl (by decide) (L' := [(3, .int (iI ((n : Int) + 1))), (2, .int (iI (-1))), (1, .int (iI ((n : Int)))), (5, .int (iI 0)), (4, .int (iI (-1))), (0, .ref (yA Y 82))]) rfl ?_
                    refine g_goto (q := 11) B dX8_bestRun_100 (by decide) ?_
                    refine g_sub [5, 2, 1, 0] rfl ?_
                    have b1 := brG_s1 (mw S 84) n
                    have b2 := brG_s2 (mw S 84) n
                    have bt : brT (mw S 84) n = -1 := by rw [brT, if_neg (by omega)]
                    exact ih (n + 1) _ _ _ _ (by rw [b1]; split <;> omega) (by rw [b2]; split <;> omega) (by first | rfl | omega) (by first | assumption | omega) (by exact hf) (by omega)
              · refine g_iconst (q := 68) B dX8_bestRun_67 rfl ?_
                refine g_goto (q := 72) B dX8_bestRun_68 (by decide) ?_
                refine g_istore (q := 74) B dX8_bestRun_72 rfl (by decide) (L' := [(5, .int (iI 1)), (4, .int (iI (-1))), (0, .ref (yA Y 82)), (1, .int (iI ((brG (mw S 84) n).1))), (2, .int (iI ((brG (mw S 84) n).2))), (3, .int (iI ((n : Int))))]) rfl ?_
                refine g_iload (q := 76) B dX8_bestRun_74 rfl 0 rfl ?_
                refine g_if_eq (t := 83) (q := 79) B dX8_bestRun_76 (by decide) rfl ⟨by omega, by omega⟩ (fun cq76 => ?_) (fun cq76 => ?_)
                · refine g_iload_n (q := 84) B dX8_bestRun_83 rfl 3 rfl ?_
                  refine g_istore_n (q := 85) B dX8_bestRun_84 rfl (by decide) (L' := [(1, .int (iI ((brG (mw S 84) n).1))), (5, .int (iI 1)), (4, .int (iI (-1))), (0, .ref (yA Y 82)), (2, .int (iI ((brG (mw S 84) n).2))), (3, .int (iI ((n : Int))))]) rfl ?_
                  refine g_iload (q := 87) B dX8_bestRun_85 rfl 1 rfl ?_
                  refine g_if_eq (t := 95) (q := 90) B dX8_bestRun_87 (by decide) rfl ⟨by omega, by omega⟩ (fun cq87 => ?_) (fun cq87 => ?_)
                  · refine g_iload_n (q := 96) B dX8_bestRun_95 rfl 4 rfl ?_
                    refine g_istore_n (q := 97) B dX8_bestRun_96 rfl (by decide) (L' := [(2, .int (iI ((brG (mw S 84) n).2))), (1, .int (iI ((brG (mw S 84) n).1))), (5, .int (iI 1)), (4, .int (iI (-1))), (0, .ref (yA Y 82)), (3, .int (iI ((n : Int))))]) rfl ?_
                    refine g_iinc (n := 5) (q := 100) B dX8_bestRun_97 rfl rfl (by decide) (L' := [(3, .int (iI ((n : Int) + 1))), (2, .int (iI ((brG (mw S 84) n).2))), (1, .int (iI ((brG (mw S 84) n).1))), (5, .int (iI 1)), (4, .int (iI (-1))), (0, .ref (yA Y 82))]) rfl ?_
                    refine g_goto (q := 11) B dX8_bestRun_100 (by decide) ?_
                    refine g_sub [5, 2, 1, 0] rfl ?_
                    have b1 := brG_s1 (mw S 84) n
                    have b2 := brG_s2 (mw S 84) n
                    have bt : brT (mw S 84) n = -1 := by rw [brT, if_neg (by omega)]
                    exact ih (n + 1) _ _ _ _ (by rw [b1]; split <;> omega) (by rw [b2]; split <;> omega) (by first | rfl | omega) (by first | assumption | omega) (by exact hf) (by omega)
                  · refine g_iload (q := 92) B dX8_bestRun_90 rfl 2 rfl ?_
                    refine g_goto (q := 96) B dX8_bestRun_92 (by decide) ?_
                    refine g_istore_n (q := 97) B dX8_bestRun_96 rfl (by decide) (L' := [(2, .int (iI (-1))), (1, .int (iI ((brG (mw S 84) n).1))), (5, .int (iI 1)), (4, .int (iI (-1))), (0, .ref (yA Y 82)), (3, .int (iI ((n : Int))))]) rfl ?_
                    refine g_iinc (n := 5) (q := 100) B dX8_bestRun_97 rfl rfl (by decide) (L' := [(3, .int (iI ((n : Int) + 1))), (2, .int (iI (-1))), (1, .int (iI ((brG (mw S 84) n).1))), (5, .int (iI 1)), (4, .int (iI (-1))), (0, .ref (yA Y 82))]) rfl ?_
                    refine g_goto (q := 11) B dX8_bestRun_100 (by decide) ?_
                    refine g_sub [5, 2, 1, 0] rfl ?_
                    have b1 := brG_s1 (mw S 84) n
                    have b2 := brG_s2 (mw S 84) n
                    have bt : brT (mw S 84) n = -1 := by rw [brT, if_neg (by omega)]
                    exact ih (n + 1) _ _ _ _ (by rw [b1]; split <;> omega) (by rw [b2]; split <;> omega) (by first | rfl | omega) (by first | assumption | omega) (by exact hf) (by omega)
                · refine g_iload_n (q := 80) B dX8_bestRun_79 rfl 5 rfl ?_
                  refine g_goto (q := 84) B dX8_bestRun_80 (by decide) ?_
                  refine g_istore_n (q := 85) B dX8_bestRun_84 rfl (by decide) (L' := [(1, .int (iI ((n : Int)))), (5, .int (iI 1)), (4, .int (iI (-1))), (0, .ref (yA Y 82)), (2, .int (iI ((brG (mw S 84) n).2))), (3, .int (iI ((n : Int))))]) rfl ?_
                  refine g_iload (q := 87) B dX8_bestRun_85 rfl 1 rfl ?_
                  refine g_if_eq (t := 95) (q := 90) B dX8_bestRun_87 (by decide) rfl ⟨by omega, by omega⟩ (fun cq87 => ?_) (fun cq87 => ?_)
                  · refine g_iload_n (q := 96) B dX8_bestRun_95 rfl 4 rfl ?_
                    refine g_istore_n (q := 97) B dX8_bestRun_96 rfl (by decide) (L' := [(2, .int (iI ((brG (mw S 84) n).2))), (1, .int (iI ((n : Int)))), (5, .int (iI 1)), (4, .int (iI (-1))), (0, .ref (yA Y 82)), (3, .int (iI ((n : Int))))]) rfl ?_
                    refine g_iinc (n := 5) (q := 100) B dX8_bestRun_97 rfl rfl (by decide) (L' := [(3, .int (iI ((n : Int) + 1))), (2, .int (iI ((brG (mw S 84) n).2))), (1, .int (iI ((n : Int)))), (5, .int (iI 1)), (4, .int (iI (-1))), (0, .ref (yA Y 82))]) rfl ?_
                    refine g_goto (q := 11) B dX8_bestRun_100 (by decide) ?_
                    refine g_sub [5, 2, 1, 0] rfl ?_
                    have b1 := brG_s1 (mw S 84) n
                    have b2 := brG_s2 (mw S 84) n
                    have bt : brT (mw S 84) n = -1 := by rw [brT, if_neg (by omega)]
                    exact ih (n + 1) _ _ _ _ (by rw [b1]; split <;> omega) (by rw [b2]; split <;> omega) (by first | rfl | omega) (by first | assumption | omega) (by exact hf) (by omega)
                  · refine g_iload (q := 92) B dX8_bestRun_90 rfl 2 rfl ?_
                    refine g_goto (q := 96) B dX8_bestRun_92 (by decide) ?_
                    refine g_istore_n (q := 97) B dX8_bestRun_96 rfl (by decide) (L' := [(2, .int (iI (-1))), (1, .int (iI ((n : Int)))), (5, .int (iI 1)), (4, .int (iI (-1))), (0, .ref (yA Y 82)), (3, .int (iI ((n : Int))))]) rfl ?_
                    refine g_iinc (n := 5) (q := 100) B dX8_bestRun_97 rfl rfl (by decide) (L' := [(3, .int (iI ((n : Int) + 1))), (2, .int (iI (-1))), (1, .int (iI ((n : Int)))), (5, .int (iI 1)), (4, .int (iI (-1))), (0, .ref (yA Y 82))]) rfl ?_
                    refine g_goto (q := 11) B dX8_bestRun_100 (by decide) ?_
                    refine g_sub [5, 2, 1, 0] rfl ?_
                    have b1 := brG_s1 (mw S 84) n
                    have b2 := brG_s2 (mw S 84) n
                    have bt : brT (mw S 84) n = -1 := by rw [brT, if_neg (by omega)]
                    exact ih (n + 1) _ _ _ _ (by rw [b1]; split <;> omega) (by rw [b2]; split <;> omega) (by first | rfl | omega) (by first | assumption | omega) (by exact hf) (by omega)
        · refine g_aload_n (q := 34) B dX8_bestRun_33 rfl 0 rfl ?_
          refine g_iload_n (q := 35) B dX8_bestRun_34 rfl 3 rfl ?_
          refine g_aload_n (q := 36) B dX8_bestRun_35 rfl 0 rfl ?_
          refine g_get (n := 82) (ty := tyX8) (q := 39) (v := .ref (yA Y 84)) B dX8_bestRun_36 rfl rfl rfl cls6 3 (by decide) w954 rfl ?_
          refine g_iconst (q := 40) B dX8_bestRun_39 rfl ?_
          refine g_iald (n := 84) (q := 41) B dX8_bestRun_40 rfl rfl rfl (by decide) (by omega) (by omega) ?_
          refine g_callV (n := 82) (ty := tyX8) (q := 44) (As := [.int (iI ((n : Int))), .int (iI (Sx 84 2))]) (st := []) B dX8_bestRun_41 rfl (c_X8_gapWith (l := xL X) (S := Sx) hwz ((n : Int)) (Sx 84 2) ⟨by omega, by omega⟩ (by omega)) eX8_gapWith w1235 (by decide) rfl rfl cls6 rfl rfl (Nat.le_of_ble_eq_true rfl) (g_kV (fun Sy hSy => ?_))
          have := gapF_in (wf_give hwz ((n : Int)) (o := (Sx 84 2)) (by omega))
          refine g_goto (q := 48) B dX8_bestRun_44 (by decide) ?_
          refine g_istore (q := 50) B dX8_bestRun_48 rfl (by decide) (L' := [(4, .int (iI (gapF (giveF (mw Sx 84) ((n : Int)) (Sx 84 2))))), (0, .ref (yA Y 82)), (1, .int (iI ((brG (mw S 84) n).1))), (2, .int (iI ((brG (mw S 84) n).2))), (3, .int (iI ((n : Int))))]) rfl ?_
          refine g_iload (q := 52) B dX8_bestRun_50 rfl 0 rfl ?_
          refine g_iconst (q := 53) B dX8_bestRun_52 rfl ?_
          refine g_icmp_eq (t := 71) (q := 56) B dX8_bestRun_53 (by decide) rfl ⟨by omega, by omega⟩ ⟨by omega, by omega⟩ (fun cq53 => ?_) (fun cq53 => ?_)
          · refine g_iconst (q := 72) B dX8_bestRun_71 rfl ?_
            refine g_istore (q := 74) B dX8_bestRun_72 rfl (by decide) (L' := [(5, .int (iI 0)), (4, .int (iI (gapF (giveF (mw Sx 84) ((n : Int)) (Sx 84 2))))), (0, .ref (yA Y 82)), (1, .int (iI ((brG (mw S 84) n).1))), (2, .int (iI ((brG (mw S 84) n).2))), (3, .int (iI ((n : Int))))]) rfl ?_
            refine g_iload (q := 76) B dX8_bestRun_74 rfl 0 rfl ?_
            refine g_if_eq (t := 83) (q := 79) B dX8_bestRun_76 (by decide) rfl ⟨by omega, by omega⟩ (fun cq76 => ?_) (fun cq76 => ?_)
            · refine g_iload_n (q := 84) B dX8_bestRun_83 rfl 3 rfl ?_
              refine g_istore_n (q := 85) B dX8_bestRun_84 rfl (by decide) (L' := [(1, .int (iI ((brG (mw S 84) n).1))), (5, .int (iI 0)), (4, .int (iI (gapF (giveF (mw Sx 84) ((n : Int)) (Sx 84 2))))), (0, .ref (yA Y 82)), (2, .int (iI ((brG (mw S 84) n).2))), (3, .int (iI ((n : Int))))]) rfl ?_
              refine g_iload (q := 87) B dX8_bestRun_85 rfl 1 rfl ?_
              refine g_if_eq (t := 95) (q := 90) B dX8_bestRun_87 (by decide) rfl ⟨by omega, by omega⟩ (fun cq87 => ?_) (fun cq87 => ?_)
              · refine g_iload_n (q := 96) B dX8_bestRun_95 rfl 4 rfl ?_
                refine g_istore_n (q := 97) B dX8_bestRun_96 rfl (by decide) (L' := [(2, .int (iI ((brG (mw S 84) n).2))), (1, .int (iI ((brG (mw S 84) n).1))), (5, .int (iI 0)), (4, .int (iI (gapF (giveF (mw Sx 84) ((n : Int)) (Sx 84 2))))), (0, .ref (yA Y 82)), (3, .int (iI ((n : Int))))]) rfl ?_
                refine g_iinc (n := 5) (q := 100) B dX8_bestRun_97 rfl rfl (by decide) (L' := [(3, .int (iI ((n : Int) + 1))), (2, .int (iI ((brG (mw S 84) n).2))), (1, .int (iI ((brG (mw S 84) n).1))), (5, .int (iI 0)), (4, .int (iI (gapF (giveF (mw Sx 84) ((n : Int)) (Sx 84 2))))), (0, .ref (yA Y 82))]) rfl ?_
                refine g_goto (q := 11) B dX8_bestRun_100 (by decide) ?_
                refine g_sub [5, 2, 1, 0] rfl ?_
                have b1 := brG_s1 (mw S 84) n
                have b2 := brG_s2 (mw S 84) n
                have bt : brT (mw S 84) n = gapF (giveF (mw Sx 84) n (Sx 84 2)) := by rw [brT, if_pos (by omega), em, e84]; rfl
                exact ih (n + 1) _ _ _ _ (by rw [b1]; split <;> omega) (by rw [b2]; split <;> omega) (by first | rfl | omega) (by first | assumption | omega) (by exact hf.tr hSy) (by omega)
              · refine g_iload (q := 92) B dX8_bestRun_90 rfl 2 rfl ?_
                refine g_goto (q := 96) B dX8_bestRun_92 (by decide) ?_
                refine g_istore_n (q := 97) B dX8_bestRun_96 rfl (by decide) (L' := [(2, .int (iI (gapF (giveF (mw Sx 84) ((n : Int)) (Sx 84 2))))), (1, .int (iI ((brG (mw S 84) n).1))), (5, .int (iI 0)), (4, .int (iI (gapF (giveF (mw Sx 84) ((n : Int)) (Sx 84 2))))), (0, .ref (yA Y 82)), (3, .int (iI ((n : Int))))]) rfl ?_
                refine g_iinc (n := 5) (q := 100) B dX8_bestRun_97 rfl rfl (by decide) (L' := [(3, .int (iI ((n : Int) + 1))), (2, .int (iI (gapF (giveF (mw Sx 84) ((n : Int)) (Sx 84 2))))), (1, .int (iI ((brG (mw S 84) n).1))), (5, .int (iI 0)), (4, .int (iI (gapF (giveF (mw Sx 84) ((n : Int)) (Sx 84 2))))), (0, .ref (yA Y 82))]) rfl ?_
                refine g_goto (q := 11) B dX8_bestRun_100 (by decide) ?_
                refine g_sub [5, 2, 1, 0] rfl ?_
                have b1 := brG_s1 (mw S 84) n
                have b2 := brG_s2 (mw S 84) n
                have bt : brT (mw S 84) n = gapF (giveF (mw Sx 84) n (Sx 84 2)) := by rw [brT, if_pos (by omega), em, e84]; rfl
                exact ih (n + 1) _ _ _ _ (by rw [b1]; split <;> omega) (by rw [b2]; split <;> omega) (by first | rfl | omega) (by first | assumption | omega) (by exact hf.tr hSy) (by omega)
            · refine g_iload_n (q := 80) B dX8_bestRun_79 rfl 5 rfl ?_
              refine g_goto (q := 84) B dX8_bestRun_80 (by decide) ?_
              refine g_istore_n (q := 85) B dX8_bestRun_84 rfl (by decide) (L' := [(1, .int (iI ((n : Int)))), (5, .int (iI 0)), (4, .int (iI (gapF (giveF (mw Sx 84) ((n : Int)) (Sx 84 2))))), (0, .ref (yA Y 82)), (2, .int (iI ((brG (mw S 84) n).2))), (3, .int (iI ((n : Int))))]) rfl ?_
              refine g_iload (q := 87) B dX8_bestRun_85 rfl 1 rfl ?_
              refine g_if_eq (t := 95) (q := 90) B dX8_bestRun_87 (by decide) rfl ⟨by omega, by omega⟩ (fun cq87 => ?_) (fun cq87 => ?_)
              · refine g_iload_n (q := 96) B dX8_bestRun_95 rfl 4 rfl ?_
                refine g_istore_n (q := 97) B dX8_bestRun_96 rfl (by decide) (L' := [(2, .int (iI ((brG (mw S 84) n).2))), (1, .int (iI ((n : Int)))), (5, .int (iI 0)), (4, .int (iI (gapF (giveF (mw Sx 84) ((n : Int)) (Sx 84 2))))), (0, .ref (yA Y 82)), (3, .int (iI ((n : Int))))]) rfl ?_
                refine g_iinc (n := 5) (q := 100) B dX8_bestRun_97 rfl rfl (by decide) (L' := [(3, .int (iI ((n : Int) + 1))), (2, .int (iI ((brG (mw S 84) n).2))), (1, .int (iI ((n : Int)))), (5, .int (iI 0)), (4, .int (iI (gapF (giveF (mw Sx 84) ((n : Int)) (Sx 84 2))))), (0, .ref (yA Y 82))]) rfl ?_
                refine g_goto (q := 11) B dX8_bestRun_100 (by decide) ?_
                refine g_sub [5, 2, 1, 0] rfl ?_
                have b1 := brG_s1 (mw S 84) n
                have b2 := brG_s2 (mw S 84) n
                have bt : brT (mw S 84) n = gapF (giveF (mw Sx 84) n (Sx 84 2)) := by rw [brT, if_pos (by omega), em, e84]; rfl
                exact ih (n + 1) _ _ _ _ (by rw [b1]; split <;> omega) (by rw [b2]; split <;> omega) (by first | rfl | omega) (by first | assumption | omega) (by exact hf.tr hSy) (by omega)
              · refine g_iload (q := 92) B dX8_bestRun_90 rfl 2 rfl ?_
                refine g_goto (q := 96) B dX8_bestRun_92 (by decide) ?_
                refine g_istore_n (q := 97) B dX8_bestRun_96 rfl (by decide) (L' := [(2, .int (iI (gapF (giveF (mw Sx 84) ((n : Int)) (Sx 84 2))))), (1, .int (iI ((n : Int)))), (5, .int (iI 0)), (4, .int (iI (gapF (giveF (mw Sx 84) ((n : Int)) (Sx 84 2))))), (0, .ref (yA Y 82)), (3, .int (iI ((n : Int))))]) rfl ?_
                refine g_iinc (n := 5) (q := 100) B dX8_bestRun_97 rfl rfl (by decide) (L' := [(3, .int (iI ((n : Int) + 1))), (2, .int (iI (gapF (giveF (mw Sx 84) ((n : Int)) (Sx 84 2))))), (1, .int (iI ((n : Int)))), (5, .int (iI 0)), (4, .int (iI (gapF (giveF (mw Sx 84) ((n : Int)) (Sx 84 2))))), (0, .ref (yA Y 82))]) rfl ?_
                refine g_goto (q := 11) B dX8_bestRun_100 (by decide) ?_
                refine g_sub [5, 2, 1, 0] rfl ?_
                have b1 := brG_s1 (mw S 84) n
                have b2 := brG_s2 (mw S 84) n
                have bt : brT (mw S 84) n = gapF (giveF (mw Sx 84) n (Sx 84 2)) := by rw [brT, if_pos (by omega), em, e84]; rfl
                exact ih (n + 1) _ _ _ _ (by rw [b1]; split <;> omega) (by rw [b2]; split <;> omega) (by first | rfl | omega) (by first | assumption | omega) (by exact hf.tr hSy) (by omega)
          · refine g_iload_n (q := 57) B dX8_bestRun_56 rfl 2 rfl ?_
            refine g_iconst (q := 58) B dX8_bestRun_57 rfl ?_
            refine g_icmp_eq (t := 67) (q := 61) B dX8_bestRun_58 (by decide) rfl ⟨by omega, by omega⟩ ⟨by omega, by omega⟩ (fun cq58 => ?_) (fun cq58 => ?_)
            · refine g_iconst (q := 68) B dX8_bestRun_67 rfl ?_
              refine g_goto (q := 72) B dX8_bestRun_68 (by decide) ?_
              refine g_istore (q := 74) B dX8_bestRun_72 rfl (by decide) (L' := [(5, .int (iI 1)), (4, .int (iI (gapF (giveF (mw Sx 84) ((n : Int)) (Sx 84 2))))), (0, .ref (yA Y 82)), (1, .int (iI ((brG (mw S 84) n).1))), (2, .int (iI ((brG (mw S 84) n).2))), (3, .int (iI ((n : Int))))]) rfl ?_
              refine g_iload (q := 76) B dX8_bestRun_74 rfl 0 rfl ?_
              refine g_if_eq (t := 83) (q := 79) B dX8_bestRun_76 (by decide) rfl ⟨by omega, by omega⟩ (fun cq76 => ?_) (fun cq76 => ?_)
              · refine g_iload_n (q := 84) B dX8_bestRun_83 rfl 3 rfl ?_
                refine g_istore_n (q := 85) B dX8_bestRun_84 rfl (by decide) (L' := [(1, .int (iI ((brG (mw S 84) n).1))), (5, .int (iI 1)), (4, .int (iI (gapF (giveF (mw Sx 84) ((n : Int)) (Sx 84 2))))), (0, .ref (yA Y 82)), (2, .int (iI ((brG (mw S 84) n).2))), (3, .int (iI ((n : Int))))]) rfl ?_
                refine g_iload (q := 87) B dX8_bestRun_85 rfl 1 rfl ?_
                refine g_if_eq (t := 95) (q := 90) B dX8_bestRun_87 (by decide) rfl ⟨by omega, by omega⟩ (fun cq87 => ?_) (fun cq87 => ?_)
                · refine g_iload_n (q := 96) B dX8_bestRun_95 rfl 4 rfl ?_
                  refine g_istore_n (q := 97) B dX8_bestRun_96 rfl (by decide) (L' := [(2, .int (iI ((brG (mw S 84) n).2))), (1, .int (iI ((brG (mw S 84) n).1))), (5, .int (iI 1)), (4, .int (iI (gapF (giveF (mw Sx 84) ((n : Int)) (Sx 84 2))))), (0, .ref (yA Y 82)), (3, .int (iI ((n : Int))))]) rfl ?_
                  refine g_iinc (n := 5) (q := 100) B dX8_bestRun_97 rfl rfl (by decide) (L' := [(3, .int (iI ((n : Int) + 1))), (2, .int (iI ((brG (mw S 84) n).2))), (1, .int (iI ((brG (mw S 84) n).1))), (5, .int (iI 1)), (4, .int (iI (gapF (giveF (mw Sx 84) ((n : Int)) (Sx 84 2))))), (0, .ref (yA Y 82))]) rfl ?_
                  refine g_goto (q := 11) B dX8_bestRun_100 (by decide) ?_
                  refine g_sub [5, 2, 1, 0] rfl ?_
                  have b1 := brG_s1 (mw S 84) n
                  have b2 := brG_s2 (mw S 84) n
                  have bt : brT (mw S 84) n = gapF (giveF (mw Sx 84) n (Sx 84 2)) := by rw [brT, if_pos (by omega), em, e84]; rfl
                  exact ih (n + 1) _ _ _ _ (by rw [b1]; split <;> omega) (by rw [b2]; split <;> omega) (by first | rfl | omega) (by first | assumption | omega) (by exact hf.tr hSy) (by omega)
                · refine g_iload (q := 92) B dX8_bestRun_90 rfl 2 rfl ?_
                  refine g_goto (q := 96) B dX8_bestRun_92 (by decide) ?_
                  refine g_istore_n (q := 97) B dX8_bestRun_96 rfl (by decide) (L' := [(2, .int (iI (gapF (giveF (mw Sx 84) ((n : Int)) (Sx 84 2))))), (1, .int (iI ((brG (mw S 84) n).1))), (5, .int (iI 1)), (4, .int (iI (gapF (giveF (mw Sx 84) ((n : Int)) (Sx 84 2))))), (0, .ref (yA Y 82)), (3, .int (iI ((n : Int))))]) rfl ?_
                  refine g_iinc (n := 5) (q := 100) B dX8_bestRun_97 rfl rfl (by decide) (L' := [(3, .int (iI ((n : Int) + 1))), (2, .int (iI (gapF (giveF (mw Sx 84) ((n : Int)) (Sx 84 2))))), (1, .int (iI ((brG (mw S 84) n).1))), (5, .int (iI 1)), (4, .int (iI (gapF (giveF (mw Sx 84) ((n : Int)) (Sx 84 2))))), (0, .ref (yA Y 82))]) rfl ?_
                  refine g_goto (q := 11) B dX8_bestRun_100 (by decide) ?_
                  refine g_sub [5, 2, 1, 0] rfl ?_
                  have b1 := brG_s1 (mw S 84) n
                  have b2 := brG_s2 (mw S 84) n
                  have bt : brT (mw S 84) n = gapF (giveF (mw Sx 84) n (Sx 84 2)) := by rw [brT, if_pos (by omega), em, e84]; rfl
                  exact ih (n + 1) _ _ _ _ (by rw [b1]; split <;> omega) (by rw [b2]; split <;> omega) (by first | rfl | omega) (by first | assumption | omega) (by exact hf.tr hSy) (by omega)
              · refine g_iload_n (q := 80) B dX8_bestRun_79 rfl 5 rfl ?_
                refine g_goto (q := 84) B dX8_bestRun_80 (by decide) ?_
                refine g_istore_n (q := 85) B dX8_bestRun_84 rfl (by decide) (L' := [(1, .int (iI ((n : Int)))), (5, .int (iI 1)), (4, .int (iI (gapF (giveF (mw Sx 84) ((n : Int)) (Sx 84 2))))), (0, .ref (yA Y 82)), (2, .int (iI ((brG (mw S 84) n).2))), (3, .int (iI ((n : Int))))]) rfl ?_
                refine g_iload (q := 87) B dX8_bestRun_85 rfl 1 rfl ?_
                refine g_if_eq (t := 95) (q := 90) B dX8_bestRun_87 (by decide) rfl ⟨by omega, by omega⟩ (fun cq87 => ?_) (fun cq87 => ?_)
                · refine g_iload_n (q := 96) B dX8_bestRun_95 rfl 4 rfl ?_
                  refine g_istore_n (q := 97) B dX8_bestRun_96 rfl (by decide) (L' := [(2, .int (iI ((brG (mw S 84) n).2))), (1, .int (iI ((n : Int)))), (5, .int (iI 1)), (4, .int (iI (gapF (giveF (mw Sx 84) ((n : Int)) (Sx 84 2))))), (0, .ref (yA Y 82)), (3, .int (iI ((n : Int))))]) rfl ?_
                  refine g_iinc (n := 5) (q := 100) B dX8_bestRun_97 rfl rfl (by decide) (L' := [(3, .int (iI ((n : Int) + 1))), (2, .int (iI ((brG (mw S 84) n).2))), (1, .int (iI ((n : Int)))), (5, .int (iI 1)), (4, .int (iI (gapF (giveF (mw Sx 84) ((n : Int)) (Sx 84 2))))), (0, .ref (yA Y 82))]) rfl ?_
                  refine g_goto (q := 11) B dX8_bestRun_100 (by decide) ?_
                  refine g_sub [5, 2, 1, 0] rfl ?_
                  have b1 := brG_s1 (mw S 84) n
                  have b2 := brG_s2 (mw S 84) n
                  have bt : brT (mw S 84) n = gapF (giveF (mw Sx 84) n (Sx 84 2)) := by rw [brT, if_pos (by omega), em, e84]; rfl
                  exact ih (n + 1) _ _ _ _ (by rw [b1]; split <;> omega) (by rw [b2]; split <;> omega) (by first | rfl | omega) (by first | assumption | omega) (by exact hf.tr hSy) (by omega)
                · refine g_iload (q := 92) B dX8_bestRun_90 rfl 2 rfl ?_
                  refine g_goto (q := 96) B dX8_bestRun_92 (by decide) ?_
                  refine g_istore_n (q := 97) B dX8_bestRun_96 rfl (by decide) (L' := [(2, .int (iI (gapF (giveF (mw Sx 84) ((n : Int)) (Sx 84 2))))), (1, .int (iI ((n : Int)))), (5, .int (iI 1)), (4, .int (iI (gapF (giveF (mw Sx 84) ((n : Int)) (Sx 84 2))))), (0, .ref (yA Y 82)), (3, .int (iI ((n : Int))))]) rfl ?_
                  refine g_iinc (n := 5) (q := 100) B dX8_bestRun_97 rfl rfl (by decide) (L' := [(3, .int (iI ((n : Int) + 1))), (2, .int (iI (gapF (giveF (mw Sx 84) ((n : Int)) (Sx 84 2))))), (1, .int (iI ((n : Int)))), (5, .int (iI 1)), (4, .int (iI (gapF (giveF (mw Sx 84) ((n : Int)) (Sx 84 2))))), (0, .ref (yA Y 82))]) rfl ?_
                  refine g_goto (q := 11) B dX8_bestRun_100 (by decide) ?_
                  refine g_sub [5, 2, 1, 0] rfl ?_
                  have b1 := brG_s1 (mw S 84) n
                  have b2 := brG_s2 (mw S 84) n
                  have bt : brT (mw S 84) n = gapF (giveF (mw Sx 84) n (Sx 84 2)) := by rw [brT, if_pos (by omega), em, e84]; rfl
                  exact ih (n + 1) _ _ _ _ (by rw [b1]; split <;> omega) (by rw [b2]; split <;> omega) (by first | rfl | omega) (by first | assumption | omega) (by exact hf.tr hSy) (by omega)
            · refine g_iload (q := 63) B dX8_bestRun_61 rfl 0 rfl ?_
              refine g_iload_n (q := 64) B dX8_bestRun_63 rfl 3 rfl ?_
              refine g_icmp_ge (t := 71) (q := 67) B dX8_bestRun_64 (by decide) rfl ⟨by omega, by omega⟩ ⟨by omega, by omega⟩ (fun cq64 => ?_) (fun cq64 => ?_)
              · refine g_iconst (q := 72) B dX8_bestRun_71 rfl ?_
                refine g_istore (q := 74) B dX8_bestRun_72 rfl (by decide) (L' := [(5, .int (iI 0)), (4, .int (iI (gapF (giveF (mw Sx 84) ((n : Int)) (Sx 84 2))))), (0, .ref (yA Y 82)), (1, .int (iI ((brG (mw S 84) n).1))), (2, .int (iI ((brG (mw S 84) n).2))), (3, .int (iI ((n : Int))))]) rfl ?_
                refine g_iload (q := 76) B dX8_bestRun_74 rfl 0 rfl ?_
                refine g_if_eq (t := 83) (q := 79) B dX8_bestRun_76 (by decide) rfl ⟨by omega, by omega⟩ (fun cq76 => ?_) (fun cq76 => ?_)
                · refine g_iload_n (q := 84) B dX8_bestRun_83 rfl 3 rfl ?_
                  refine g_istore_n (q := 85) B dX8_bestRun_84 rfl (by decide) (L' := [(1, .int (iI ((brG (mw S 84) n).1))), (5, .int (iI 0)), (4, .int (iI (gapF (giveF (mw Sx 84) ((n : Int)) (Sx 84 2))))), (0, .ref (yA Y 82)), (2, .int (iI ((brG (mw S 84) n).2))), (3, .int (iI ((n : Int))))]) rfl ?_
                  refine g_iload (q := 87) B dX8_bestRun_85 rfl 1 rfl ?_
                  refine g_if_eq (t := 95) (q := 90) B dX8_bestRun_87 (by decide) rfl ⟨by omega, by omega⟩ (fun cq87 => ?_) (fun cq87 => ?_)
                  · refine g_iload_n (q := 96) B dX8_bestRun_95 rfl 4 rfl ?_
                    refine g_istore_n (q := 97) B dX8_bestRun_96 rfl (by decide) (L' := [(2, .int (iI ((brG (mw S 84) n).2))), (1, .int (iI ((brG (mw S 84) n).1))), (5, .int (iI 0)), (4, .int (iI (gapF (giveF (mw Sx 84) ((n : Int)) (Sx 84 2))))), (0, .ref (yA Y 82)), (3, .int (iI ((n : Int))))]) rfl ?_
                    refine g_iinc (n := 5) (q := 100) B dX8_bestRun_97 rfl rfl (by decide) (L' := [(3, .int (iI ((n : Int) + 1))), (2, .int (iI ((brG (mw S 84) n).2))), (1, .int (iI ((brG (mw S 84) n).1))), (5, .int (iI 0)), (4, .int (iI (gapF (giveF (mw Sx 84) ((n : Int)) (Sx 84 2))))), (0, .ref (yA Y 82))]) rfl ?_
                    refine g_goto (q := 11) B dX8_bestRun_100 (by decide) ?_
                    refine g_sub [5, 2, 1, 0] rfl ?_
                    have b1 := brG_s1 (mw S 84) n
                    have b2 := brG_s2 (mw S 84) n
                    have bt : brT (mw S 84) n = gapF (giveF (mw Sx 84) n (Sx 84 2)) := by rw [brT, if_pos (by omega), em, e84]; rfl
                    exact ih (n + 1) _ _ _ _ (by rw [b1]; split <;> omega) (by rw [b2]; split <;> omega) (by first | rfl | omega) (by first | assumption | omega) (by exact hf.tr hSy) (by omega)
                  · refine g_iload (q := 92) B dX8_bestRun_90 rfl 2 rfl ?_
                    refine g_goto (q := 96) B dX8_bestRun_92 (by decide) ?_
                    refine g_istore_n (q := 97) B dX8_bestRun_96 rfl (by decide) (L' := [(2, .int (iI (gapF (giveF (mw Sx 84) ((n : Int)) (Sx 84 2))))), (1, .int (iI ((brG (mw S 84) n).1))), (5, .int (iI 0)), (4, .int (iI (gapF (giveF (mw Sx 84) ((n : Int)) (Sx 84 2))))), (0, .ref (yA Y 82)), (3, .int (iI ((n : Int))))]) rfl ?_
                    refine g_iinc (n := 5) (q := 100) B dX8_bestRun_97 rfl rfl (by decide) (L' := [(3, .int (iI ((n : Int) + 1))), (2, .int (iI (gapF (giveF (mw Sx 84) ((n : Int)) (Sx 84 2))))), (1, .int (iI ((brG (mw S 84) n).1))), (5, .int (iI 0)), (4, .int (iI (gapF (giveF (mw Sx 84) ((n : Int)) (Sx 84 2))))), (0, .ref (yA Y 82))]) rfl ?_
                    refine g_goto (q := 11) B dX8_bestRun_100 (by decide) ?_
                    refine g_sub [5, 2, 1, 0] rfl ?_
                    have b1 := brG_s1 (mw S 84) n
                    have b2 := brG_s2 (mw S 84) n
                    have bt : brT (mw S 84) n = gapF (giveF (mw Sx 84) n (Sx 84 2)) := by rw [brT, if_pos (by omega), em, e84]; rfl
                    exact ih (n + 1) _ _ _ _ (by rw [b1]; split <;> omega) (by rw [b2]; split <;> omega) (by first | rfl | omega) (by first | assumption | omega) (by exact hf.tr hSy) (by omega)
                · refine g_iload_n (q := 80) B dX8_bestRun_79 rfl 5 rfl ?_
                  refine g_goto (q := 84) B dX8_bestRun_80 (by decide) ?_
                  refine g_istore_n (q := 85) B dX8_bestRun_84 rfl (by decide) (L' := [(1, .int (iI ((n : Int)))), (5, .int (iI 0)), (4, .int (iI (gapF (giveF (mw Sx 84) ((n : Int)) (Sx 84 2))))), (0, .ref (yA Y 82)), (2, .int (iI ((brG (mw S 84) n).2))), (3, .int (iI ((n : Int))))]) rfl ?_
                  refine g_iload (q := 87) B dX8_bestRun_85 rfl 1 rfl ?_
                  refine g_if_eq (t := 95) (q := 90) B dX8_bestRun_87 (by decide) rfl ⟨by omega, by omega⟩ (fun cq87 => ?_) (fun cq87 => ?_)
                  · refine g_iload_n (q := 96) B dX8_bestRun_95 rfl 4 rfl ?_
                    refine g_istore_n (q := 97) B dX8_bestRun_96 rfl (by decide) (L' := [(2, .int (iI ((brG (mw S 84) n).2))), (1, .int (iI ((n : Int)))), (5, .int (iI 0)), (4, .int (iI (gapF (giveF (mw Sx 84) ((n : Int)) (Sx 84 2))))), (0, .ref (yA Y 82)), (3, .int (iI ((n : Int))))]) rfl ?_
                    refine g_iinc (n := 5) (q := 100) B dX8_bestRun_97 rfl rfl (by decide) (L' := [(3, .int (iI ((n : Int) + 1))), (2, .int (iI ((brG (mw S 84) n).2))), (1, .int (iI ((n : Int)))), (5, .int (iI 0)), (4, .int (iI (gapF (giveF (mw Sx 84) ((n : Int)) (Sx 84 2))))), (0, .ref (yA Y 82))]) rfl ?_
                    refine g_goto (q := 11) B dX8_bestRun_100 (by decide) ?_
                    refine g_sub [5, 2, 1, 0] rfl ?_
                    have b1 := brG_s1 (mw S 84) n
                    have b2 := brG_s2 (mw S 84) n
                    have bt : brT (mw S 84) n = gapF (giveF (mw Sx 84) n (Sx 84 2)) := by rw [brT, if_pos (by omega), em, e84]; rfl
                    exact ih (n + 1) _ _ _ _ (by rw [b1]; split <;> omega) (by rw [b2]; split <;> omega) (by first | rfl | omega) (by first | assumption | omega) (by exact hf.tr hSy) (by omega)
                  · refine g_iload (q := 92) B dX8_bestRun_90 rfl 2 rfl ?_
                    refine g_goto (q := 96) B dX8_bestRun_92 (by decide) ?_
                    refine g_istore_n (q := 97) B dX8_bestRun_96 rfl (by decide) (L' := [(2, .int (iI (gapF (giveF (mw Sx 84) ((n : Int)) (Sx 84 2))))), (1, .int (iI ((n : Int)))), (5, .int (iI 0)), (4, .int (iI (gapF (giveF (mw Sx 84) ((n : Int)) (Sx 84 2))))), (0, .ref (yA Y 82)), (3, .int (iI ((n : Int))))]) rfl ?_
                    refine g_iinc (n := 5) (q := 100) B dX8_bestRun_97 rfl rfl (by decide) (L' := [(3, .int (iI ((n : Int) + 1))), (2, .int (iI (gapF (giveF (mw Sx 84) ((n : Int)) (Sx 84 2))))), (1, .int (iI ((n : Int)))), (5, .int (iI 0)), (4, .int (iI (gapF (giveF (mw Sx 84) ((n : Int)) (Sx 84 2))))), (0, .ref (yA Y 82))]) rfl ?_
                    refine g_goto (q := 11) B dX8_bestRun_100 (by decide) ?_
                    refine g_sub [5, 2, 1, 0] rfl ?_
                    have b1 := brG_s1 (mw S 84) n
                    have b2 := brG_s2 (mw S 84) n
                    have bt : brT (mw S 84) n = gapF (giveF (mw Sx 84) n (Sx 84 2)) := by rw [brT, if_pos (by omega), em, e84]; rfl
                    exact ih (n + 1) _ _ _ _ (by rw [b1]; split <;> omega) (by rw [b2]; split <;> omega) (by first | rfl | omega) (by first | assumption | omega) (by exact hf.tr hSy) (by omega)
              · refine g_iconst (q := 68) B dX8_bestRun_67 rfl ?_
                refine g_goto (q := 72) B dX8_bestRun_68 (by decide) ?_
                refine g_istore (q := 74) B dX8_bestRun_72 rfl (by decide) (L' := [(5, .int (iI 1)), (4, .int (iI (gapF (giveF (mw Sx 84) ((n : Int)) (Sx 84 2))))), (0, .ref (yA Y 82)), (1, .int (iI ((brG (mw S 84) n).1))), (2, .int (iI ((brG (mw S 84) n).2))), (3, .int (iI ((n : Int))))]) rfl ?_
                refine g_iload (q := 76) B dX8_bestRun_74 rfl 0 rfl ?_
                refine g_if_eq (t := 83) (q := 79) B dX8_bestRun_76 (by decide) rfl ⟨by omega, by omega⟩ (fun cq76 => ?_) (fun cq76 => ?_)
                · refine g_iload_n (q := 84) B dX8_bestRun_83 rfl 3 rfl ?_
                  refine g_istore_n (q := 85) B dX8_bestRun_84 rfl (by decide) (L' := [(1, .int (iI ((brG (mw S 84) n).1))), (5, .int (iI 1)), (4, .int (iI (gapF (giveF (mw Sx 84) ((n : Int)) (Sx 84 2))))), (0, .ref (yA Y 82)), (2, .int (iI ((brG (mw S 84) n).2))), (3, .int (iI ((n : Int))))]) rfl ?_
                  refine g_iload (q := 87) B dX8_bestRun_85 rfl 1 rfl ?_
                  refine g_if_eq (t := 95) (q := 90) B dX8_bestRun_87 (by decide) rfl ⟨by omega, by omega⟩ (fun cq87 => ?_) (fun cq87 => ?_)
                  · refine g_iload_n (q := 96) B dX8_bestRun_95 rfl 4 rfl ?_
                    refine g_istore_n (q := 97) B dX8_bestRun_96 rfl (by decide) (L' := [(2, .int (iI ((brG (mw S 84) n).2))), (1, .int (iI ((brG (mw S 84) n).1))), (5, .int (iI 1)), (4, .int (iI (gapF (giveF (mw Sx 84) ((n : Int)) (Sx 84 2))))), (0, .ref (yA Y 82)), (3, .int (iI ((n : Int))))]) rfl ?_
                    refine g_iinc (n := 5) (q := 100) B dX8_bestRun_97 rfl rfl (by decide) (L' := [(3, .int (iI ((n : Int) + 1))), (2, .int (iI ((brG (mw S 84) n).2))), (1, .int (iI ((brG (mw S 84) n).1))), (5, .int (iI 1)), (4, .int (iI (gapF (giveF (mw Sx 84) ((n : Int)) (Sx 84 2))))), (0, .ref (yA Y 82))]) rfl ?_
                    refine g_goto (q := 11) B dX8_bestRun_100 (by decide) ?_
                    refine g_sub [5, 2, 1, 0] rfl ?_
                    have b1 := brG_s1 (mw S 84) n
                    have b2 := brG_s2 (mw S 84) n
                    have bt : brT (mw S 84) n = gapF (giveF (mw Sx 84) n (Sx 84 2)) := by rw [brT, if_pos (by omega), em, e84]; rfl
                    exact ih (n + 1) _ _ _ _ (by rw [b1]; split <;> omega) (by rw [b2]; split <;> omega) (by first | rfl | omega) (by first | assumption | omega) (by exact hf.tr hSy) (by omega)
                  · refine g_iload (q := 92) B dX8_bestRun_90 rfl 2 rfl ?_
                    refine g_goto (q := 96) B dX8_bestRun_92 (by decide) ?_
                    refine g_istore_n (q := 97) B dX8_bestRun_96 rfl (by decide) (L' := [(2, .int (iI (gapF (giveF (mw Sx 84) ((n : Int)) (Sx 84 2))))), (1, .int (iI ((brG (mw S 84) n).1))), (5, .int (iI 1)), (4, .int (iI (gapF (giveF (mw Sx 84) ((n : Int)) (Sx 84 2))))), (0, .ref (yA Y 82)), (3, .int (iI ((n : Int))))]) rfl ?_
                    refine g_iinc (n := 5) (q := 100) B dX8_bestRun_97 rfl rfl (by decide) (L' := [(3, .int (iI ((n : Int) + 1))), (2, .int (iI (gapF (giveF (mw Sx 84) ((n : Int)) (Sx 84 2))))), (1, .int (iI ((brG (mw S 84) n).1))), (5, .int (iI 1)), (4, .int (iI (gapF (giveF (mw Sx 84) ((n : Int)) (Sx 84 2))))), (0, .ref (yA Y 82))]) rfl ?_
                    refine g_goto (q := 11) B dX8_bestRun_100 (by decide) ?_
                    refine g_sub [5, 2, 1, 0] rfl ?_
                    have b1 := brG_s1 (mw S 84) n
                    have b2 := brG_s2 (mw S 84) n
                    have bt : brT (mw S 84) n = gapF (giveF (mw Sx 84) n (Sx 84 2)) := by rw [brT, if_pos (by omega), em, e84]; rfl
                    exact ih (n + 1) _ _ _ _ (by rw [b1]; split <;> omega) (by rw [b2]; split <;> omega) (by first | rfl | omega) (by first | assumption | omega) (by exact hf.tr hSy) (by omega)
                · refine g_iload_n (q := 80) B dX8_bestRun_79 rfl 5 rfl ?_
                  refine g_goto (q := 84) B dX8_bestRun_80 (by decide) ?_
                  refine g_istore_n (q := 85) B dX8_bestRun_84 rfl (by decide) (L' := [(1, .int (iI ((n : Int)))), (5, .int (iI 1)), (4, .int (iI (gapF (giveF (mw Sx 84) ((n : Int)) (Sx 84 2))))), (0, .ref (yA Y 82)), (2, .int (iI ((brG (mw S 84) n).2))), (3, .int (iI ((n : Int))))]) rfl ?_
                  refine g_iload (q := 87) B dX8_bestRun_85 rfl 1 rfl ?_
                  refine g_if_eq (t := 95) (q := 90) B dX8_bestRun_87 (by decide) rfl ⟨by omega, by omega⟩ (fun cq87 => ?_) (fun cq87 => ?_)
                  · refine g_iload_n (q := 96) B dX8_bestRun_95 rfl 4 rfl ?_
                    refine g_istore_n (q := 97) B dX8_bestRun_96 rfl (by decide) (L' := [(2, .int (iI ((brG (mw S 84) n).2))), (1, .int (iI ((n : Int)))), (5, .int (iI 1)), (4, .int (iI (gapF (giveF (mw Sx 84) ((n : Int)) (Sx 84 2))))), (0, .ref (yA Y 82)), (3, .int (iI ((n : Int))))]) rfl ?_
                    refine g_iinc (n := 5) (q := 100) B dX8_bestRun_97 rfl rfl (by decide) (L' := [(3, .int (iI ((n : Int) + 1))), (2, .int (iI ((brG (mw S 84) n).2))), (1, .int (iI ((n : Int)))), (5, .int (iI 1)), (4, .int (iI (gapF (giveF (mw Sx 84) ((n : Int)) (Sx 84 2))))), (0, .ref (yA Y 82))]) rfl ?_
                    refine g_goto (q := 11) B dX8_bestRun_100 (by decide) ?_
                    refine g_sub [5, 2, 1, 0] rfl ?_
                    have b1 := brG_s1 (mw S 84) n
                    have b2 := brG_s2 (mw S 84) n
                    have bt : brT (mw S 84) n = gapF (giveF (mw Sx 84) n (Sx 84 2)) := by rw [brT, if_pos (by omega), em, e84]; rfl
                    exact ih (n + 1) _ _ _ _ (by rw [b1]; split <;> omega) (by rw [b2]; split <;> omega) (by first | rfl | omega) (by first | assumption | omega) (by exact hf.tr hSy) (by omega)
                  · refine g_iload (q := 92) B dX8_bestRun_90 rfl 2 rfl ?_
                    refine g_goto (q := 96) B dX8_bestRun_92 (by decide) ?_
                    refine g_istore_n (q := 97) B dX8_bestRun_96 rfl (by decide) (L' := [(2, .int (iI (gapF (giveF (mw Sx 84) ((n : Int)) (Sx 84 2))))), (1, .int (iI ((n : Int)))), (5, .int (iI 1)), (4, .int (iI (gapF (giveF (mw Sx 84) ((n : Int)) (Sx 84 2))))), (0, .ref (yA Y 82)), (3, .int (iI ((n : Int))))]) rfl ?_
                    refine g_iinc (n := 5) (q := 100) B dX8_bestRun_97 rfl rfl (by decide) (L' := [(3, .int (iI ((n : Int) + 1))), (2, .int (iI (gapF (giveF (mw Sx 84) ((n : Int)) (Sx 84 2))))), (1, .int (iI ((n : Int)))), (5, .int (iI 1)), (4, .int (iI (gapF (giveF (mw Sx 84) ((n : Int)) (Sx 84 2))))), (0, .ref (yA Y 82))]) rfl ?_
                    refine g_goto (q := 11) B dX8_bestRun_100 (by decide) ?_
                    refine g_sub [5, 2, 1, 0] rfl ?_
                    have b1 := brG_s1 (mw S 84) n
                    have b2 := brG_s2 (mw S 84) n
                    have bt : brT (mw S 84) n = gapF (giveF (mw Sx 84) n (Sx 84 2)) := by rw [brT, if_pos (by omega), em, e84]; rfl
                    exact ih (n + 1) _ _ _ _ (by rw [b1]; split <;> omega) (by rw [b2]; split <;> omega) (by first | rfl | omega) (by first | assumption | omega) (by exact hf.tr hSy) (by omega)
  refine g_aload_n (q := 1) B dX8_bestRun_0 rfl 0 rfl ?_
  refine g_iconst (q := 2) B dX8_bestRun_1 rfl ?_
  refine g_put (n := 82) (ty := tyX8) (q := 5) B dX8_bestRun_2 rfl rfl rfl cls6 0 (by decide) w951 rfl rfl rfl (Nat.le_of_ble_eq_true rfl) ((uq (S 82) 0 0)) rfl ?_
  refine g_iconst (q := 6) B dX8_bestRun_5 rfl ?_
  refine g_istore_n (q := 7) B dX8_bestRun_6 rfl (by decide) (L' := [(1, .int (iI (-1))), (0, .ref (yA Y 82))]) rfl ?_
  refine g_iconst (q := 8) B dX8_bestRun_7 rfl ?_
  refine g_istore_n (q := 9) B dX8_bestRun_8 rfl (by decide) (L' := [(2, .int (iI 0)), (1, .int (iI (-1))), (0, .ref (yA Y 82))]) rfl ?_
  refine g_iconst (q := 10) B dX8_bestRun_9 rfl ?_
  refine g_istore_n (q := 11) B dX8_bestRun_10 rfl (by decide) (L' := [(3, .int (iI 0)), (2, .int (iI 0)), (1, .int (iI (-1))), (0, .ref (yA Y 82))]) rfl ?_
  refine g_sub [3, 2, 1, 0] rfl ?_
  exact lp11 _ 0 _ _ _ _ (by first | rfl | omega) (by first | rfl | omega) (by first | rfl | omega) (by first | assumption | omega) (by exact fm.rf) (Nat.lt_succ_self _)
