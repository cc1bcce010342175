/-! THE TWO ARE ALIKE -/
set_option maxHeartbeats 8000000 in
theorem c_alike {Y : gY} {l : Launch} {S : SS} {P : PT} (hst : l.stackTraces = false) (A0 : PK P S) (D0 : PK P (sS S)) (W : WF0 P) (x : Int) (hx0 : 0 ≤ x ∧ x < 100000) : gN Y l mL_alike 200 S [.ref (yA Y 72), .ref (yA Y 172), .int (iI x)] (fun v S' => v = some (.int (iI 1)) ∧ PK P S' ∧ PK P (sS S')) := by
  refine gN_of (by decide) (Nat.le_of_ble_eq_true rfl) ?_
  intro X hXl B E
  subst hXl
  have lp47 : ∀ (fu : Nat) (k : Int) (c : Nat) (S1 : SS), PK P S1 → PK P (sS S1) → gB Y (xK X c) "NecklaceSistersLaw" cL_alike 5 (some .boolean) 50 → 0 ≤ k → k ≤ 16 → (c : Int) ≤ 10 + 8 * k → (16 - k).toNat < fu → gW Y (xK X c) S1 47 [(0, .ref (yA Y 72)), (1, .ref (yA Y 172)), (2, .int (iI x)), (3, .int (iI 1)), (4, .int (iI k))] [] := by
    intro fu
    induction fu with
    | zero =>
      intro k c S1 _ _ _ _ _ _ h
      exact absurd h (Nat.not_lt_zero _)
    | succ fu ih =>
      intro k c S1 A1 D1 B1 k0 k1 hc hf
      refine g_iload (q := 49) B1 dL_alike_47 rfl 4 rfl ?_
      refine g_bipush (q := 51) B1 dL_alike_49 rfl (by decide) ?_
      refine g_icmp_ge (t := 166) (q := 54) B1 dL_alike_51 (by decide) rfl ⟨by omega, by omega⟩ ⟨by omega, by omega⟩ (fun cq51 => ?_) (fun cq51 => ?_)
      · refine g_iload_n (q := 167) B1 dL_alike_166 rfl 3 rfl ?_
        exact gn_zret B1 E (by omega) dL_alike_167 rfl (by decide) ⟨rfl, A1, D1⟩
      · refine g_iload_n (q := 55) B1 dL_alike_54 rfl 3 rfl ?_
        refine g_if_eq (t := 166) (q := 58) B1 dL_alike_55 (by decide) rfl ⟨by omega, by omega⟩ (fun cq55 => absurd cq55 (by decide)) (fun cq55 => ?_)
        refine g_aload_n (q := 59) B1 dL_alike_58 rfl 0 rfl ?_
        refine g_iconst (q := 60) B1 dL_alike_59 rfl ?_
        refine g_iload (q := 62) B1 dL_alike_60 rfl 4 rfl ?_
        refine g_iconst (q := 63) B1 dL_alike_62 rfl ?_
        refine g_iconst (q := 64) B1 dL_alike_63 rfl ?_
        refine g_callN (q := 67) (m1 := 1) (c2 := c + 1) (As := [.ref (yA Y 72), .int (iI 2), .int (iI k), .int (iI 0), .int (iI 0)]) (st := []) B1 dL_alike_64 rfl (k_about (Y := Y) (S := S1) hst A1 W k ⟨by omega, by omega⟩ 0 0 (x := (tv (cd_about k) (vl_about (pG P) k) (-9999002) (0) (0))) (hx := rfl)) eL_call w179 (by decide) rfl rfl (Nat.le_of_ble_eq_true rfl) (by omega) (Nat.le_trans (show c + 1 ≤ 200 by omega) E.2.1) (Nat.le_trans (show 6 * (c + 1) ≤ 6 * 200 by omega) E.2.2) (fun v S2 hS2 => ?_)
        obtain ⟨rfl, A2, K2⟩ := hS2
        have D2 := PK_o2 D1 K2
        have B3 := gB_K (c := c + 1) B1 (Nat.le_trans (show c + 1 ≤ 200 by omega) E.2.1) (Nat.le_trans (show 6 * (c + 1) ≤ 6 * 200 by omega) E.2.2)
        show gW Y (xK X (c + 1)) S2 67 [(0, .ref (yA Y 72)), (1, .ref (yA Y 172)), (2, .int (iI x)), (3, .int (iI 1)), (4, .int (iI k))] [.int (iI ((tv (cd_about k) (vl_about (pG P) k) (-9999002) (0) (0))))]
        refine g_eqT (st' := [.int (iI (oI (tv (cd_about k) (vl_about (pG P) k) (-9999002) (0) (0))))]) (by rw [oI_iI]) ?_
        refine g_aload_n (q := 68) B3 dL_alike_67 rfl 1 rfl ?_
        refine g_iconst (q := 69) B3 dL_alike_68 rfl ?_
        refine g_iload (q := 71) B3 dL_alike_69 rfl 4 rfl ?_
        refine g_iconst (q := 72) B3 dL_alike_71 rfl ?_
        refine g_iconst (q := 73) B3 dL_alike_72 rfl ?_
        refine g_callN (q := 76) (m1 := 1) (c2 := c + 2) (As := [.ref (yA Y 172), .int (iI 2), .int (iI k), .int (iI 0), .int (iI 0)]) (st := [.int (iI (oI (tv (cd_about k) (vl_about (pG P) k) (-9999002) (0) (0))))]) B3 dL_alike_73 rfl (gN_sw (k_about (Y := ySw Y) (S := sS S2) hst D2 W k ⟨by omega, by omega⟩ 0 0 (x := (tv (cd_about k) (vl_about (pG P) k) (-9999002) (0) (0))) (hx := rfl))) eL_call w179 (by decide) rfl rfl (Nat.le_of_ble_eq_true rfl) (by omega) (Nat.le_trans (show c + 2 ≤ 200 by omega) E.2.1) (Nat.le_trans (show 6 * (c + 2) ≤ 6 * 200 by omega) E.2.2) (fun v S4 hS4 => ?_)
        obtain ⟨rfl, D4, K4⟩ := hS4
        have A4 := PK_o1 A2 K4
        have B5 := gB_K (c := c + 2) B3 (Nat.le_trans (show c + 2 ≤ 200 by omega) E.2.1) (Nat.le_trans (show 6 * (c + 2) ≤ 6 * 200 by omega) E.2.2)
        show gW Y (xK X (c + 2)) S4 76 [(0, .ref (yA Y 72)), (1, .ref (yA Y 172)), (2, .int (iI x)), (3, .int (iI 1)), (4, .int (iI k))] [.int (iI ((tv (cd_about k) (vl_about (pG P) k) (-9999002) (0) (0)))), .int (iI (oI (tv (cd_about k) (vl_about (pG P) k) (-9999002) (0) (0))))]
        refine g_eqT (st' := [.int (iI (oI (tv (cd_about k) (vl_about (pG P) k) (-9999002) (0) (0)))), .int (iI (oI (tv (cd_about k) (vl_about (pG P) k) (-9999002) (0) (0))))]) (by rw [oI_iI]) ?_
        refine g_icmp_ne (t := 158) (q := 79) B5 dL_alike_76 (by decide) rfl (oI_in _) (oI_in _) (fun cq76 => absurd cq76 (by omega)) (fun cq76 => ?_)
        refine g_aload_n (q := 80) B5 dL_alike_79 rfl 0 rfl ?_
        refine g_iconst (q := 81) B5 dL_alike_80 rfl ?_
        refine g_iload (q := 83) B5 dL_alike_81 rfl 4 rfl ?_
        refine g_iload_n (q := 84) B5 dL_alike_83 rfl 2 rfl ?_
        refine g_iconst (q := 85) B5 dL_alike_84 rfl ?_
        refine g_irem (q := 86) B5 dL_alike_85 rfl (by omega) (by omega) (by omega) (by omega) ?_
        refine g_iconst (q := 87) B5 dL_alike_86 rfl ?_
        refine g_callN (q := 90) (m1 := 1) (c2 := c + 3) (As := [.ref (yA Y 72), .int (iI 3), .int (iI k), .int (iI (x % 3)), .int (iI 0)]) (st := []) B5 dL_alike_87 rfl (k_jewelOf (Y := Y) (S := S4) hst A4 W k ⟨by omega, by omega⟩ (x % 3) ⟨by omega, by omega⟩ 0 (x := (tv (cd_jewelOf (pG P) k (x % 3)) (vl_jewelOf (pG P) k (x % 3)) (-9999001) (-9999002) (0))) (hx := rfl)) eL_call w179 (by decide) rfl rfl (Nat.le_of_ble_eq_true rfl) (by omega) (Nat.le_trans (show c + 3 ≤ 200 by omega) E.2.1) (Nat.le_trans (show 6 * (c + 3) ≤ 6 * 200 by omega) E.2.2) (fun v S6 hS6 => ?_)
        obtain ⟨rfl, A6, K6⟩ := hS6
        have D6 := PK_o2 D4 K6
        have B7 := gB_K (c := c + 3) B5 (Nat.le_trans (show c + 3 ≤ 200 by omega) E.2.1) (Nat.le_trans (show 6 * (c + 3) ≤ 6 * 200 by omega) E.2.2)
        show gW Y (xK X (c + 3)) S6 90 [(0, .ref (yA Y 72)), (1, .ref (yA Y 172)), (2, .int (iI x)), (3, .int (iI 1)), (4, .int (iI k))] [.int (iI ((tv (cd_jewelOf (pG P) k (x % 3)) (vl_jewelOf (pG P) k (x % 3)) (-9999001) (-9999002) (0))))]
        refine g_eqT (st' := [.int (iI (oI (tv (cd_jewelOf (pG P) k (x % 3)) (vl_jewelOf (pG P) k (x % 3)) (-9999001) (-9999002) (0))))]) (by rw [oI_iI]) ?_
        refine g_aload_n (q := 91) B7 dL_alike_90 rfl 1 rfl ?_
        refine g_iconst (q := 92) B7 dL_alike_91 rfl ?_
        refine g_iload (q := 94) B7 dL_alike_92 rfl 4 rfl ?_
        refine g_iload_n (q := 95) B7 dL_alike_94 rfl 2 rfl ?_
        refine g_iconst (q := 96) B7 dL_alike_95 rfl ?_
        refine g_irem (q := 97) B7 dL_alike_96 rfl (by omega) (by omega) (by omega) (by omega) ?_
        refine g_iconst (q := 98) B7 dL_alike_97 rfl ?_
        refine g_callN (q := 101) (m1 := 1) (c2 := c + 4) (As := [.ref (yA Y 172), .int (iI 3), .int (iI k), .int (iI (x % 3)), .int (iI 0)]) (st := [.int (iI (oI (tv (cd_jewelOf (pG P) k (x % 3)) (vl_jewelOf (pG P) k (x % 3)) (-9999001) (-9999002) (0))))]) B7 dL_alike_98 rfl (gN_sw (k_jewelOf (Y := ySw Y) (S := sS S6) hst D6 W k ⟨by omega, by omega⟩ (x % 3) ⟨by omega, by omega⟩ 0 (x := (tv (cd_jewelOf (pG P) k (x % 3)) (vl_jewelOf (pG P) k (x % 3)) (-9999001) (-9999002) (0))) (hx := rfl))) eL_call w179 (by decide) rfl rfl (Nat.le_of_ble_eq_true rfl) (by omega) (Nat.le_trans (show c + 4 ≤ 200 by omega) E.2.1) (Nat.le_trans (show 6 * (c + 4) ≤ 6 * 200 by omega) E.2.2) (fun v S8 hS8 => ?_)
        obtain ⟨rfl, D8, K8⟩ := hS8
        have A8 := PK_o1 A6 K8
        have B9 := gB_K (c := c + 4) B7 (Nat.le_trans (show c + 4 ≤ 200 by omega) E.2.1) (Nat.le_trans (show 6 * (c + 4) ≤ 6 * 200 by omega) E.2.2)
        show gW Y (xK X (c + 4)) S8 101 [(0, .ref (yA Y 72)), (1, .ref (yA Y 172)), (2, .int (iI x)), (3, .int (iI 1)), (4, .int (iI k))] [.int (iI ((tv (cd_jewelOf (pG P) k (x % 3)) (vl_jewelOf (pG P) k (x % 3)) (-9999001) (-9999002) (0)))), .int (iI (oI (tv (cd_jewelOf (pG P) k (x % 3)) (vl_jewelOf (pG P) k (x % 3)) (-9999001) (-9999002) (0))))]
        refine g_eqT (st' := [.int (iI (oI (tv (cd_jewelOf (pG P) k (x % 3)) (vl_jewelOf (pG P) k (x % 3)) (-9999001) (-9999002) (0)))), .int (iI (oI (tv (cd_jewelOf (pG P) k (x % 3)) (vl_jewelOf (pG P) k (x % 3)) (-9999001) (-9999002) (0))))]) (by rw [oI_iI]) ?_
        refine g_icmp_ne (t := 158) (q := 104) B9 dL_alike_101 (by decide) rfl (oI_in _) (oI_in _) (fun cq101 => absurd cq101 (by omega)) (fun cq101 => ?_)
        refine g_aload_n (q := 105) B9 dL_alike_104 rfl 0 rfl ?_
        refine g_iconst (q := 106) B9 dL_alike_105 rfl ?_
        refine g_iload (q := 108) B9 dL_alike_106 rfl 4 rfl ?_
        refine g_iload_n (q := 109) B9 dL_alike_108 rfl 2 rfl ?_
        refine g_iconst (q := 110) B9 dL_alike_109 rfl ?_
        refine g_irem (q := 111) B9 dL_alike_110 rfl (by omega) (by omega) (by omega) (by omega) ?_
        refine g_iconst (q := 112) B9 dL_alike_111 rfl ?_
        refine g_callN (q := 115) (m1 := 1) (c2 := c + 5) (As := [.ref (yA Y 72), .int (iI 4), .int (iI k), .int (iI (x % 4)), .int (iI 0)]) (st := []) B9 dL_alike_112 rfl (k_placeOf (Y := Y) (S := S8) hst A8 W k ⟨by omega, by omega⟩ (x % 4) ⟨by omega, by omega⟩ 0 (x := (tv (cd_placeOf (pG P) k (x % 4)) (vl_placeOf (pG P) k (x % 4)) (-9999001) (-9999002) (0))) (hx := rfl)) eL_call w179 (by decide) rfl rfl (Nat.le_of_ble_eq_true rfl) (by omega) (Nat.le_trans (show c + 5 ≤ 200 by omega) E.2.1) (Nat.le_trans (show 6 * (c + 5) ≤ 6 * 200 by omega) E.2.2) (fun v S10 hS10 => ?_)
        obtain ⟨rfl, A10, K10⟩ := hS10
        have D10 := PK_o2 D8 K10
        have B11 := gB_K (c := c + 5) B9 (Nat.le_trans (show c + 5 ≤ 200 by omega) E.2.1) (Nat.le_trans (show 6 * (c + 5) ≤ 6 * 200 by omega) E.2.2)
        show gW Y (xK X (c + 5)) S10 115 [(0, .ref (yA Y 72)), (1, .ref (yA Y 172)), (2, .int (iI x)), (3, .int (iI 1)), (4, .int (iI k))] [.int (iI ((tv (cd_placeOf (pG P) k (x % 4)) (vl_placeOf (pG P) k (x % 4)) (-9999001) (-9999002) (0))))]
        refine g_eqT (st' := [.int (iI (oI (tv (cd_placeOf (pG P) k (x % 4)) (vl_placeOf (pG P) k (x % 4)) (-9999001) (-9999002) (0))))]) (by rw [oI_iI]) ?_
        refine g_aload_n (q := 116) B11 dL_alike_115 rfl 1 rfl ?_
        refine g_iconst (q := 117) B11 dL_alike_116 rfl ?_
        refine g_iload (q := 119) B11 dL_alike_117 rfl 4 rfl ?_
        refine g_iload_n (q := 120) B11 dL_alike_119 rfl 2 rfl ?_
        refine g_iconst (q := 121) B11 dL_alike_120 rfl ?_
        refine g_irem (q := 122) B11 dL_alike_121 rfl (by omega) (by omega) (by omega) (by omega) ?_
        refine g_iconst (q := 123) B11 dL_alike_122 rfl ?_
        refine g_callN (q := 126) (m1 := 1) (c2 := c + 6) (As := [.ref (yA Y 172), .int (iI 4), .int (iI k), .int (iI (x % 4)), .int (iI 0)]) (st := [.int (iI (oI (tv (cd_placeOf (pG P) k (x % 4)) (vl_placeOf (pG P) k (x % 4)) (-9999001) (-9999002) (0))))]) B11 dL_alike_123 rfl (gN_sw (k_placeOf (Y := ySw Y) (S := sS S10) hst D10 W k ⟨by omega, by omega⟩ (x % 4) ⟨by omega, by omega⟩ 0 (x := (tv (cd_placeOf (pG P) k (x % 4)) (vl_placeOf (pG P) k (x % 4)) (-9999001) (-9999002) (0))) (hx := rfl))) eL_call w179 (by decide) rfl rfl (Nat.le_of_ble_eq_true rfl) (by omega) (Nat.le_trans (show c + 6 ≤ 200 by omega) E.2.1) (Nat.le_trans (show 6 * (c + 6) ≤ 6 * 200 by omega) E.2.2) (fun v S12 hS12 => ?_)
        obtain ⟨rfl, D12, K12⟩ := hS12
        have A12 := PK_o1 A10 K12
        have B13 := gB_K (c := c + 6) B11 (Nat.le_trans (show c + 6 ≤ 200 by omega) E.2.1) (Nat.le_trans (show 6 * (c + 6) ≤ 6 * 200 by omega) E.2.2)
        show gW Y (xK X (c + 6)) S12 126 [(0, .ref (yA Y 72)), (1, .ref (yA Y 172)), (2, .int (iI x)), (3, .int (iI 1)), (4, .int (iI k))] [.int (iI ((tv (cd_placeOf (pG P) k (x % 4)) (vl_placeOf (pG P) k (x % 4)) (-9999001) (-9999002) (0)))), .int (iI (oI (tv (cd_placeOf (pG P) k (x % 4)) (vl_placeOf (pG P) k (x % 4)) (-9999001) (-9999002) (0))))]
        refine g_eqT (st' := [.int (iI (oI (tv (cd_placeOf (pG P) k (x % 4)) (vl_placeOf (pG P) k (x % 4)) (-9999001) (-9999002) (0)))), .int (iI (oI (tv (cd_placeOf (pG P) k (x % 4)) (vl_placeOf (pG P) k (x % 4)) (-9999001) (-9999002) (0))))]) (by rw [oI_iI]) ?_
        refine g_icmp_ne (t := 158) (q := 129) B13 dL_alike_126 (by decide) rfl (oI_in _) (oI_in _) (fun cq126 => absurd cq126 (by omega)) (fun cq126 => ?_)
        refine g_aload_n (q := 130) B13 dL_alike_129 rfl 0 rfl ?_
        refine g_iconst (q := 131) B13 dL_alike_130 rfl ?_
        refine g_iload (q := 133) B13 dL_alike_131 rfl 4 rfl ?_
        refine g_iload_n (q := 134) B13 dL_alike_133 rfl 2 rfl ?_
        refine g_iconst (q := 135) B13 dL_alike_134 rfl ?_
        refine g_irem (q := 136) B13 dL_alike_135 rfl (by omega) (by omega) (by omega) (by omega) ?_
        refine g_iconst (q := 137) B13 dL_alike_136 rfl ?_
        refine g_callN (q := 140) (m1 := 1) (c2 := c + 7) (As := [.ref (yA Y 72), .int (iI 5), .int (iI k), .int (iI (x % 4)), .int (iI 0)]) (st := []) B13 dL_alike_137 rfl (k_runOf (Y := Y) (S := S12) hst A12 W k ⟨by omega, by omega⟩ (x % 4) ⟨by omega, by omega⟩ 0 (x := (tv (cd_runOf (pG P) k (x % 4)) (vl_runOf (pG P) k (x % 4)) (-9999001) (-9999002) (0))) (hx := rfl)) eL_call w179 (by decide) rfl rfl (Nat.le_of_ble_eq_true rfl) (by omega) (Nat.le_trans (show c + 7 ≤ 200 by omega) E.2.1) (Nat.le_trans (show 6 * (c + 7) ≤ 6 * 200 by omega) E.2.2) (fun v S14 hS14 => ?_)
        obtain ⟨rfl, A14, K14⟩ := hS14
        have D14 := PK_o2 D12 K14
        have B15 := gB_K (c := c + 7) B13 (Nat.le_trans (show c + 7 ≤ 200 by omega) E.2.1) (Nat.le_trans (show 6 * (c + 7) ≤ 6 * 200 by omega) E.2.2)
        show gW Y (xK X (c + 7)) S14 140 [(0, .ref (yA Y 72)), (1, .ref (yA Y 172)), (2, .int (iI x)), (3, .int (iI 1)), (4, .int (iI k))] [.int (iI ((tv (cd_runOf (pG P) k (x % 4)) (vl_runOf (pG P) k (x % 4)) (-9999001) (-9999002) (0))))]
        refine g_eqT (st' := [.int (iI (oI (tv (cd_runOf (pG P) k (x % 4)) (vl_runOf (pG P) k (x % 4)) (-9999001) (-9999002) (0))))]) (by rw [oI_iI]) ?_
        refine g_aload_n (q := 141) B15 dL_alike_140 rfl 1 rfl ?_
        refine g_iconst (q := 142) B15 dL_alike_141 rfl ?_
        refine g_iload (q := 144) B15 dL_alike_142 rfl 4 rfl ?_
        refine g_iload_n (q := 145) B15 dL_alike_144 rfl 2 rfl ?_
        refine g_iconst (q := 146) B15 dL_alike_145 rfl ?_
        refine g_irem (q := 147) B15 dL_alike_146 rfl (by omega) (by omega) (by omega) (by omega) ?_
        refine g_iconst (q := 148) B15 dL_alike_147 rfl ?_
        refine g_callN (q := 151) (m1 := 1) (c2 := c + 8) (As := [.ref (yA Y 172), .int (iI 5), .int (iI k), .int (iI (x % 4)), .int (iI 0)]) (st := [.int (iI (oI (tv (cd_runOf (pG P) k (x % 4)) (vl_runOf (pG P) k (x % 4)) (-9999001) (-9999002) (0))))]) B15 dL_alike_148 rfl (gN_sw (k_runOf (Y := ySw Y) (S := sS S14) hst D14 W k ⟨by omega, by omega⟩ (x % 4) ⟨by omega, by omega⟩ 0 (x := (tv (cd_runOf (pG P) k (x % 4)) (vl_runOf (pG P) k (x % 4)) (-9999001) (-9999002) (0))) (hx := rfl))) eL_call w179 (by decide) rfl rfl (Nat.le_of_ble_eq_true rfl) (by omega) (Nat.le_trans (show c + 8 ≤ 200 by omega) E.2.1) (Nat.le_trans (show 6 * (c + 8) ≤ 6 * 200 by omega) E.2.2) (fun v S16 hS16 => ?_)
        obtain ⟨rfl, D16, K16⟩ := hS16
        have A16 := PK_o1 A14 K16
        have B17 := gB_K (c := c + 8) B15 (Nat.le_trans (show c + 8 ≤ 200 by omega) E.2.1) (Nat.le_trans (show 6 * (c + 8) ≤ 6 * 200 by omega) E.2.2)
        show gW Y (xK X (c + 8)) S16 151 [(0, .ref (yA Y 72)), (1, .ref (yA Y 172)), (2, .int (iI x)), (3, .int (iI 1)), (4, .int (iI k))] [.int (iI ((tv (cd_runOf (pG P) k (x % 4)) (vl_runOf (pG P) k (x % 4)) (-9999001) (-9999002) (0)))), .int (iI (oI (tv (cd_runOf (pG P) k (x % 4)) (vl_runOf (pG P) k (x % 4)) (-9999001) (-9999002) (0))))]
        refine g_eqT (st' := [.int (iI (oI (tv (cd_runOf (pG P) k (x % 4)) (vl_runOf (pG P) k (x % 4)) (-9999001) (-9999002) (0)))), .int (iI (oI (tv (cd_runOf (pG P) k (x % 4)) (vl_runOf (pG P) k (x % 4)) (-9999001) (-9999002) (0))))]) (by rw [oI_iI]) ?_
        refine g_icmp_ne (t := 158) (q := 154) B17 dL_alike_151 (by decide) rfl (oI_in _) (oI_in _) (fun cq151 => absurd cq151 (by omega)) (fun cq151 => ?_)
        refine g_iconst (q := 155) B17 dL_alike_154 rfl ?_
        refine g_goto (q := 159) B17 dL_alike_155 (by decide) ?_
        refine g_istore_n (q := 160) B17 dL_alike_159 rfl (by decide) (L' := [(3, .int (iI 1)), (0, .ref (yA Y 72)), (1, .ref (yA Y 172)), (2, .int (iI x)), (4, .int (iI k))]) rfl ?_
        refine g_iinc (n := 4) (q := 163) B17 dL_alike_160 rfl rfl (by decide) (L' := [(4, .int (iI (k + 1))), (3, .int (iI 1)), (0, .ref (yA Y 72)), (1, .ref (yA Y 172)), (2, .int (iI x))]) rfl ?_
        refine g_goto (q := 47) B17 dL_alike_163 (by decide) ?_
        refine g_sub [2, 3, 4, 1, 0] rfl ?_
        exact ih  (k + 1) (c + 8) S16 A16 D16 B17 (by omega) (by omega) (by omega) (by omega)
  show gW Y (xK X 0) S 0 [(0, .ref (yA Y 72)), (1, .ref (yA Y 172)), (2, .int (iI x))] []
  refine g_aload_n (q := 1) B dL_alike_0 rfl 0 rfl ?_
  refine g_iload_n (q := 2) B dL_alike_1 rfl 2 rfl ?_
  refine g_i2l (q := 3) B dL_alike_2 rfl ⟨by omega, by omega⟩ ?_
  refine g_iconst (q := 4) B dL_alike_3 rfl ?_
  refine g_iload_n (q := 5) B dL_alike_4 rfl 2 rfl ?_
  refine g_bipush (q := 7) B dL_alike_5 rfl (by decide) ?_
  refine g_irem (q := 8) B dL_alike_7 rfl (by omega) (by omega) (by omega) (by omega) ?_
  refine g_iadd (q := 9) B dL_alike_8 rfl ?_
  refine g_callW (q := 12) (c2 := 1) (As := [.ref (yA Y 72), .long (lI x), .int (iI (1 + (x % 40)))]) (st := []) B dL_alike_9 rfl (k_simulate (Y := Y) (S := S) hst A0 W x (1 + (x % 40)) ⟨by omega, by omega⟩ ⟨by omega, by omega⟩  (x := (tv (cd_sim (1 + (x % 40))) (laV (plT (pG P) x (1 + (x % 40)).toNat)) (-9999002) (0) (0))) (hx := rfl)) eL_doSimulate w887 (by decide) rfl rfl (Nat.le_of_ble_eq_true rfl) (by omega) (Nat.le_trans (show 1 ≤ 200 by omega) E.2.1) (Nat.le_trans (show 6 * (1) ≤ 6 * 200 by omega) E.2.2) (fun v S18 hS18 => ?_)
  obtain ⟨rfl, A18, K18⟩ := hS18
  have D18 := PK_o2 D0 K18
  have B19 := gB_K (c := 1) B (Nat.le_trans (show 1 ≤ 200 by omega) E.2.1) (Nat.le_trans (show 6 * (1) ≤ 6 * 200 by omega) E.2.2)
  show gW Y (xK X (1)) S18 12 [(0, .ref (yA Y 72)), (1, .ref (yA Y 172)), (2, .int (iI x))] [.int (iI ((tv (cd_sim (1 + (x % 40))) (laV (plT (pG P) x (1 + (x % 40)).toNat)) (-9999002) (0) (0))))]
  refine g_eqT (st' := [.int (iI (oI (tv (cd_sim (1 + (x % 40))) (laV (plT (pG P) x (1 + (x % 40)).toNat)) (-9999002) (0) (0))))]) (by rw [oI_iI]) ?_
  refine g_aload_n (q := 13) B19 dL_alike_12 rfl 1 rfl ?_
  refine g_iload_n (q := 14) B19 dL_alike_13 rfl 2 rfl ?_
  refine g_i2l (q := 15) B19 dL_alike_14 rfl ⟨by omega, by omega⟩ ?_
  refine g_iconst (q := 16) B19 dL_alike_15 rfl ?_
  refine g_iload_n (q := 17) B19 dL_alike_16 rfl 2 rfl ?_
  refine g_bipush (q := 19) B19 dL_alike_17 rfl (by decide) ?_
  refine g_irem (q := 20) B19 dL_alike_19 rfl (by omega) (by omega) (by omega) (by omega) ?_
  refine g_iadd (q := 21) B19 dL_alike_20 rfl ?_
  refine g_callW (q := 24) (c2 := 2) (As := [.ref (yA Y 172), .long (lI x), .int (iI (1 + (x % 40)))]) (st := [.int (iI (oI (tv (cd_sim (1 + (x % 40))) (laV (plT (pG P) x (1 + (x % 40)).toNat)) (-9999002) (0) (0))))]) B19 dL_alike_21 rfl (gVH_sw (k_simulate (Y := ySw Y) (S := sS S18) hst D18 W x (1 + (x % 40)) ⟨by omega, by omega⟩ ⟨by omega, by omega⟩  (x := (tv (cd_sim (1 + (x % 40))) (laV (plT (pG P) x (1 + (x % 40)).toNat)) (-9999002) (0) (0))) (hx := rfl))) eL_doSimulate w887 (by decide) rfl rfl (Nat.le_of_ble_eq_true rfl) (by omega) (Nat.le_trans (show 2 ≤ 200 by omega) E.2.1) (Nat.le_trans (show 6 * (2) ≤ 6 * 200 by omega) E.2.2) (fun v S20 hS20 => ?_)
  obtain ⟨rfl, D20, K20⟩ := hS20
  have A20 := PK_o1 A18 K20
  have B21 := gB_K (c := 2) B19 (Nat.le_trans (show 2 ≤ 200 by omega) E.2.1) (Nat.le_trans (show 6 * (2) ≤ 6 * 200 by omega) E.2.2)
  show gW Y (xK X (2)) S20 24 [(0, .ref (yA Y 72)), (1, .ref (yA Y 172)), (2, .int (iI x))] [.int (iI ((tv (cd_sim (1 + (x % 40))) (laV (plT (pG P) x (1 + (x % 40)).toNat)) (-9999002) (0) (0)))), .int (iI (oI (tv (cd_sim (1 + (x % 40))) (laV (plT (pG P) x (1 + (x % 40)).toNat)) (-9999002) (0) (0))))]
  refine g_eqT (st' := [.int (iI (oI (tv (cd_sim (1 + (x % 40))) (laV (plT (pG P) x (1 + (x % 40)).toNat)) (-9999002) (0) (0)))), .int (iI (oI (tv (cd_sim (1 + (x % 40))) (laV (plT (pG P) x (1 + (x % 40)).toNat)) (-9999002) (0) (0))))]) (by rw [oI_iI]) ?_
  refine g_icmp_ne (t := 42) (q := 27) B21 dL_alike_24 (by decide) rfl (oI_in _) (oI_in _) (fun cq24 => absurd cq24 (by omega)) (fun cq24 => ?_)
  refine g_aload_n (q := 28) B21 dL_alike_27 rfl 0 rfl ?_
  refine g_callV (n := 72) (ty := tyX7) (q := 31) (As := []) (st := []) B21 dL_alike_28 rfl (k_bestRun (Y := Y) (l := xL X) (S := S20) A20 W) eX7_bestRun w930 (by decide) rfl rfl cls5 rfl rfl (Nat.le_of_ble_eq_true rfl) (fun v S22 hS22 => ?_)
  obtain ⟨rfl, A22, K22⟩ := hS22
  have D22 := PK_o2 D20 K22
  show gW Y (xK X (2)) S22 31 [(0, .ref (yA Y 72)), (1, .ref (yA Y 172)), (2, .int (iI x))] [.int (iI ((ckG (pG P) (runsF (pG P)).toNat).1))]
  refine g_eqT (st' := [.int (iI (oI (ckG (pG P) (runsF (pG P)).toNat).1))]) (by rw [oI_iI]) ?_
  refine g_aload_n (q := 32) B21 dL_alike_31 rfl 1 rfl ?_
  refine g_callV (n := 172) (ty := tyX7) (q := 35) (As := []) (st := [.int (iI (oI (ckG (pG P) (runsF (pG P)).toNat).1))]) B21 dL_alike_32 rfl (gM_sw (k_bestRun (Y := ySw Y) (l := xL X) (S := sS S22) D22 W)) eX7_bestRun w930 (by decide) rfl rfl cls5 rfl rfl (Nat.le_of_ble_eq_true rfl) (fun v S23 hS23 => ?_)
  obtain ⟨rfl, D23, K23⟩ := hS23
  have A23 := PK_o1 A22 K23
  show gW Y (xK X (2)) S23 35 [(0, .ref (yA Y 72)), (1, .ref (yA Y 172)), (2, .int (iI x))] [.int (iI ((ckG (pG P) (runsF (pG P)).toNat).1)), .int (iI (oI (ckG (pG P) (runsF (pG P)).toNat).1))]
  refine g_eqT (st' := [.int (iI (oI (ckG (pG P) (runsF (pG P)).toNat).1)), .int (iI (oI (ckG (pG P) (runsF (pG P)).toNat).1))]) (by rw [oI_iI]) ?_
  refine g_icmp_ne (t := 42) (q := 38) B21 dL_alike_35 (by decide) rfl (oI_in _) (oI_in _) (fun cq35 => absurd cq35 (by omega)) (fun cq35 => ?_)
  refine g_iconst (q := 39) B21 dL_alike_38 rfl ?_
  refine g_goto (q := 43) B21 dL_alike_39 (by decide) ?_
  refine g_istore_n (q := 44) B21 dL_alike_43 rfl (by decide) (L' := [(3, .int (iI 1)), (0, .ref (yA Y 72)), (1, .ref (yA Y 172)), (2, .int (iI x))]) rfl ?_
  refine g_iconst (q := 45) B21 dL_alike_44 rfl ?_
  refine g_istore (q := 47) B21 dL_alike_45 rfl (by decide) (L' := [(4, .int (iI 0)), (3, .int (iI 1)), (0, .ref (yA Y 72)), (1, .ref (yA Y 172)), (2, .int (iI x))]) rfl ?_
  refine g_sub [2, 3, 4, 1, 0] rfl ?_
  exact lp47 _ 0 (2) S23 A23 D23 B21 (by omega) (by omega) (by omega) (Nat.lt_succ_self _)
