set_option maxHeartbeats 16000000 in
theorem c_refusesE {Y : gY} {l : Launch} {S : SS} {P : PT} (hst : l.stackTraces = false) (A0 : PK P S) (W : WF0 P) (C : CH 4 P) (x : Int) (hx0 : 0 ≤ x ∧ x < 100000) (hx2 : x % 2 = 0) : gN Y l mL_refuses 36 S [.ref (yA Y 72), .int (iI x)] (qP 1 P S) := by
  refine gN_of (by decide) (Nat.le_of_ble_eq_true rfl) ?_
  intro X hXl B E
  subst hXl
  have T0 := kp_r S
  have hb := pic_in W C
  show gW Y (xK X 0) S 0 [(0, .ref (yA Y 72)), (1, .int (iI x))] []
  refine g_aload_n (q := 1) B dL_refuses_0 rfl 0 rfl ?_
  refine g_iconst (q := 2) B dL_refuses_1 rfl ?_
  refine g_iconst (q := 3) B dL_refuses_2 rfl ?_
  refine g_iconst (q := 4) B dL_refuses_3 rfl ?_
  refine g_iconst (q := 5) B dL_refuses_4 rfl ?_
  refine g_callN (q := 8) (m1 := 1) (c2 := 1) (As := [.ref (yA Y 72), .int (iI 2), .int (iI 0), .int (iI 0), .int (iI 0)]) (st := []) B dL_refuses_5 rfl (k_about (Y := Y) (S := S) hst A0 W 0 ⟨by omega, by omega⟩ 0 0 (x := pG P 0) (hx := rfl)) eL_call w179 (by decide) rfl rfl (Nat.le_of_ble_eq_true rfl) (by omega) (Nat.le_trans (show 1 ≤ 36 by omega) E.2.1) (Nat.le_trans (show 6 * (1) ≤ 6 * 36 by omega) E.2.2) (fun v S1 hS1 => ?_)
  obtain ⟨rfl, A1, K1⟩ := hS1
  have T1 := kp_t T0 K1
  have B2 := gB_K (c := 1) B (Nat.le_trans (show 1 ≤ 36 by omega) E.2.1) (Nat.le_trans (show 6 * (1) ≤ 6 * 36 by omega) E.2.2)
  show gW Y (xK X (1)) S1 8 [(0, .ref (yA Y 72)), (1, .int (iI x))] [.int (iI (pG P 0))]
  refine g_istore_n (q := 9) B2 dL_refuses_8 rfl (by decide) (L' := [(2, .int (iI (pG P 0))), (0, .ref (yA Y 72)), (1, .int (iI x))]) rfl ?_
  refine g_aload_n (q := 10) B2 dL_refuses_9 rfl 1 rfl ?_
  refine g_iconst (q := 11) B2 dL_refuses_10 rfl ?_
  refine g_iconst (q := 12) B2 dL_refuses_11 rfl ?_
  refine g_iconst (q := 13) B2 dL_refuses_12 rfl ?_
  refine g_iconst (q := 14) B2 dL_refuses_13 rfl ?_
  refine g_callN (q := 17) (m1 := 1) (c2 := 2) (As := [.ref (yA Y 72), .int (iI 2), .int (iI 3), .int (iI 0), .int (iI 0)]) (st := []) B2 dL_refuses_14 rfl (k_about (Y := Y) (S := S1) hst A1 W 3 ⟨by omega, by omega⟩ 0 0 (x := runsF (pG P)) (hx := rfl)) eL_call w179 (by decide) rfl rfl (Nat.le_of_ble_eq_true rfl) (by omega) (Nat.le_trans (show 2 ≤ 36 by omega) E.2.1) (Nat.le_trans (show 6 * (2) ≤ 6 * 36 by omega) E.2.2) (fun v S3 hS3 => ?_)
  obtain ⟨rfl, A3, K3⟩ := hS3
  have T3 := kp_t T1 K3
  have B4 := gB_K (c := 2) B2 (Nat.le_trans (show 2 ≤ 36 by omega) E.2.1) (Nat.le_trans (show 6 * (2) ≤ 6 * 36 by omega) E.2.2)
  show gW Y (xK X (2)) S3 17 [(2, .int (iI (pG P 0))), (0, .ref (yA Y 72)), (1, .int (iI x))] [.int (iI (runsF (pG P)))]
  refine g_istore_n (q := 18) B4 dL_refuses_17 rfl (by decide) (L' := [(3, .int (iI (runsF (pG P)))), (2, .int (iI (pG P 0))), (0, .ref (yA Y 72)), (1, .int (iI x))]) rfl ?_
  refine g_iload_n (q := 19) B4 dL_refuses_18 rfl 3 rfl ?_
  refine g_iconst (q := 20) B4 dL_refuses_19 rfl ?_
  refine g_irem (q := 21) B4 dL_refuses_20 rfl (by omega) (by omega) (by omega) (by omega) ?_
  refine g_if_ne (t := 33) (q := 24) B4 dL_refuses_21 (by decide) rfl ⟨by omega, by omega⟩ (fun cq21 => absurd cq21 (by omega)) (fun cq21 => ?_)
  refine g_iconst (q := 25) B4 dL_refuses_24 rfl ?_
  refine g_iload_n (q := 26) B4 dL_refuses_25 rfl 3 rfl ?_
  refine g_bipush (q := 28) B4 dL_refuses_26 rfl (by decide) ?_
  refine g_irem (q := 29) B4 dL_refuses_28 rfl (by omega) (by omega) (by omega) (by omega) ?_
  refine g_isub (q := 30) B4 dL_refuses_29 rfl ?_
  refine g_goto (q := 39) B4 dL_refuses_30 (by decide) ?_
  refine g_istore (q := 41) B4 dL_refuses_39 rfl (by decide) (L' := [(4, .int (iI ((-1) - (x % 99)))), (3, .int (iI (runsF (pG P)))), (2, .int (iI (pG P 0))), (0, .ref (yA Y 72)), (1, .int (iI x))]) rfl ?_
  refine g_iload_n (q := 42) B4 dL_refuses_41 rfl 4 rfl ?_
  refine g_iconst (q := 43) B4 dL_refuses_42 rfl ?_
  refine g_irem (q := 44) B4 dL_refuses_43 rfl (by omega) (by omega) (by omega) (by omega) ?_
  refine g_if_ne (t := 56) (q := 47) B4 dL_refuses_44 (by decide) rfl ⟨by omega, by omega⟩ (fun cq44 => absurd cq44 (by omega)) (fun cq44 => ?_)
  refine g_iconst (q := 48) B4 dL_refuses_47 rfl ?_
  refine g_iload_n (q := 49) B4 dL_refuses_48 rfl 4 rfl ?_
  refine g_bipush (q := 51) B4 dL_refuses_49 rfl (by decide) ?_
  refine g_irem (q := 52) B4 dL_refuses_51 rfl (by omega) (by omega) (by omega) (by omega) ?_
  refine g_isub (q := 53) B4 dL_refuses_52 rfl ?_
  refine g_goto (q := 62) B4 dL_refuses_53 (by decide) ?_
  refine g_istore (q := 64) B4 dL_refuses_62 rfl (by decide) (L' := [(5, .int (iI ((-1) - (x % 99)))), (4, .int (iI ((-1) - (x % 99)))), (3, .int (iI (runsF (pG P)))), (2, .int (iI (pG P 0))), (0, .ref (yA Y 72)), (1, .int (iI x))]) rfl ?_
  refine g_iload_n (q := 65) B4 dL_refuses_64 rfl 5 rfl ?_
  refine g_iconst (q := 66) B4 dL_refuses_65 rfl ?_
  refine g_irem (q := 67) B4 dL_refuses_66 rfl (by omega) (by omega) (by omega) (by omega) ?_
  refine g_if_ne (t := 79) (q := 70) B4 dL_refuses_67 (by decide) rfl ⟨by omega, by omega⟩ (fun cq67 => absurd cq67 (by omega)) (fun cq67 => ?_)
  refine g_iconst (q := 71) B4 dL_refuses_70 rfl ?_
  refine g_iload_n (q := 72) B4 dL_refuses_71 rfl 5 rfl ?_
  refine g_bipush (q := 74) B4 dL_refuses_72 rfl (by decide) ?_
  refine g_irem (q := 75) B4 dL_refuses_74 rfl (by omega) (by omega) (by omega) (by omega) ?_
  refine g_isub (q := 76) B4 dL_refuses_75 rfl ?_
  refine g_goto (q := 85) B4 dL_refuses_76 (by decide) ?_
  refine g_istore (q := 87) B4 dL_refuses_85 rfl (by decide) (L' := [(6, .int (iI ((-1) - (x % 9)))), (5, .int (iI ((-1) - (x % 99)))), (4, .int (iI ((-1) - (x % 99)))), (3, .int (iI (runsF (pG P)))), (2, .int (iI (pG P 0))), (0, .ref (yA Y 72)), (1, .int (iI x))]) rfl ?_
  refine g_aload_n (q := 88) B4 dL_refuses_87 rfl 5 rfl ?_
  refine g_iconst (q := 89) B4 dL_refuses_88 rfl ?_
  refine g_iload_n (q := 90) B4 dL_refuses_89 rfl 6 rfl ?_
  refine g_iconst (q := 91) B4 dL_refuses_90 rfl ?_
  refine g_irem (q := 92) B4 dL_refuses_91 rfl (by omega) (by omega) (by omega) (by omega) ?_
  refine g_if_ne (t := 104) (q := 95) B4 dL_refuses_92 (by decide) rfl ⟨by omega, by omega⟩ (fun cq92 => absurd cq92 (by omega)) (fun cq92 => ?_)
  refine g_iconst (q := 96) B4 dL_refuses_95 rfl ?_
  refine g_iload_n (q := 97) B4 dL_refuses_96 rfl 6 rfl ?_
  refine g_bipush (q := 99) B4 dL_refuses_97 rfl (by decide) ?_
  refine g_irem (q := 100) B4 dL_refuses_99 rfl (by omega) (by omega) (by omega) (by omega) ?_
  refine g_isub (q := 101) B4 dL_refuses_100 rfl ?_
  refine g_goto (q := 112) B4 dL_refuses_101 (by decide) ?_
  refine g_iconst (q := 113) B4 dL_refuses_112 rfl ?_
  refine g_iconst (q := 114) B4 dL_refuses_113 rfl ?_
  refine g_callN (q := 117) (m1 := 1) (c2 := 3) (As := [.ref (yA Y 72), .int (iI 0), .int (iI ((-1) - (x % 9))), .int (iI 0), .int (iI 0)]) (st := []) B4 dL_refuses_114 rfl (k_append (Y := Y) (S := S3) hst A3 W ((-1) - (x % 9)) ⟨by omega, by omega⟩ 0 0 (by omega)) eL_call w179 (by decide) rfl rfl (Nat.le_of_ble_eq_true rfl) (by omega) (Nat.le_trans (show 3 ≤ 36 by omega) E.2.1) (Nat.le_trans (show 6 * (3) ≤ 6 * 36 by omega) E.2.2) (fun v S5 hS5 => ?_)
  obtain ⟨rfl, A5, K5⟩ := hS5
  have T5 := kp_t T3 K5
  have B6 := gB_K (c := 3) B4 (Nat.le_trans (show 3 ≤ 36 by omega) E.2.1) (Nat.le_trans (show 6 * (3) ≤ 6 * 36 by omega) E.2.2)
  show gW Y (xK X (3)) S5 117 [(6, .int (iI ((-1) - (x % 9)))), (5, .int (iI ((-1) - (x % 99)))), (4, .int (iI ((-1) - (x % 99)))), (3, .int (iI (runsF (pG P)))), (2, .int (iI (pG P 0))), (0, .ref (yA Y 72)), (1, .int (iI x))] [.int (iI (-9999002))]
  refine g_ldc (z := -9999002) (q := 119) B6 dL_refuses_117 rfl w279 (by decide) ?_
  refine g_icmp_ne (t := 708) (q := 122) B6 dL_refuses_119 (by decide) rfl ⟨by omega, by omega⟩ ⟨by omega, by omega⟩ (fun cq119 => absurd cq119 (by decide)) (fun cq119 => ?_)
  refine g_aload_n (q := 123) B6 dL_refuses_122 rfl 5 rfl ?_
  refine g_iconst (q := 124) B6 dL_refuses_123 rfl ?_
  refine g_bipush (q := 126) B6 dL_refuses_124 rfl (by decide) ?_
  refine g_iload_n (q := 127) B6 dL_refuses_126 rfl 6 rfl ?_
  refine g_bipush (q := 129) B6 dL_refuses_127 rfl (by decide) ?_
  refine g_irem (q := 130) B6 dL_refuses_129 rfl (by omega) (by omega) (by omega) (by omega) ?_
  refine g_iadd (q := 131) B6 dL_refuses_130 rfl ?_
  refine g_iconst (q := 132) B6 dL_refuses_131 rfl ?_
  refine g_iconst (q := 133) B6 dL_refuses_132 rfl ?_
  refine g_callN (q := 136) (m1 := 1) (c2 := 4) (As := [.ref (yA Y 72), .int (iI 2), .int (iI (10 + (x % 50))), .int (iI 0), .int (iI 0)]) (st := []) B6 dL_refuses_133 rfl (k_about (Y := Y) (S := S5) hst A5 W (10 + (x % 50)) ⟨by omega, by omega⟩ 0 0 (x := -9999002) (hx := tv_1 (if_neg (by omega)))) eL_call w179 (by decide) rfl rfl (Nat.le_of_ble_eq_true rfl) (by omega) (Nat.le_trans (show 4 ≤ 36 by omega) E.2.1) (Nat.le_trans (show 6 * (4) ≤ 6 * 36 by omega) E.2.2) (fun v S7 hS7 => ?_)
  obtain ⟨rfl, A7, K7⟩ := hS7
  have T7 := kp_t T5 K7
  have B8 := gB_K (c := 4) B6 (Nat.le_trans (show 4 ≤ 36 by omega) E.2.1) (Nat.le_trans (show 6 * (4) ≤ 6 * 36 by omega) E.2.2)
  show gW Y (xK X (4)) S7 136 [(6, .int (iI ((-1) - (x % 9)))), (5, .int (iI ((-1) - (x % 99)))), (4, .int (iI ((-1) - (x % 99)))), (3, .int (iI (runsF (pG P)))), (2, .int (iI (pG P 0))), (0, .ref (yA Y 72)), (1, .int (iI x))] [.int (iI (-9999002))]
  refine g_ldc (z := -9999002) (q := 138) B8 dL_refuses_136 rfl w279 (by decide) ?_
  refine g_icmp_ne (t := 708) (q := 141) B8 dL_refuses_138 (by decide) rfl ⟨by omega, by omega⟩ ⟨by omega, by omega⟩ (fun cq138 => absurd cq138 (by decide)) (fun cq138 => ?_)
  refine g_aload_n (q := 142) B8 dL_refuses_141 rfl 5 rfl ?_
  refine g_iconst (q := 143) B8 dL_refuses_142 rfl ?_
  refine g_iload (q := 145) B8 dL_refuses_143 rfl 2 rfl ?_
  refine g_bipush (q := 147) B8 dL_refuses_145 rfl (by decide) ?_
  refine g_iconst (q := 148) B8 dL_refuses_147 rfl ?_
  refine g_callN (q := 151) (m1 := 1) (c2 := 5) (As := [.ref (yA Y 72), .int (iI 3), .int (iI ((-1) - (x % 99))), .int (iI 99), .int (iI 0)]) (st := []) B8 dL_refuses_148 rfl (k_jewelOf (Y := Y) (S := S7) hst A7 W ((-1) - (x % 99)) ⟨by omega, by omega⟩ 99 ⟨by omega, by omega⟩ 0 (x := -9999001) (hx := tv_1 (if_neg (by omega)))) eL_call w179 (by decide) rfl rfl (Nat.le_of_ble_eq_true rfl) (by omega) (Nat.le_trans (show 5 ≤ 36 by omega) E.2.1) (Nat.le_trans (show 6 * (5) ≤ 6 * 36 by omega) E.2.2) (fun v S9 hS9 => ?_)
  obtain ⟨rfl, A9, K9⟩ := hS9
  have T9 := kp_t T7 K9
  have B10 := gB_K (c := 5) B8 (Nat.le_trans (show 5 ≤ 36 by omega) E.2.1) (Nat.le_trans (show 6 * (5) ≤ 6 * 36 by omega) E.2.2)
  show gW Y (xK X (5)) S9 151 [(6, .int (iI ((-1) - (x % 9)))), (5, .int (iI ((-1) - (x % 99)))), (4, .int (iI ((-1) - (x % 99)))), (3, .int (iI (runsF (pG P)))), (2, .int (iI (pG P 0))), (0, .ref (yA Y 72)), (1, .int (iI x))] [.int (iI (-9999001))]
  refine g_ldc (z := -9999001) (q := 153) B10 dL_refuses_151 rfl w573 (by decide) ?_
  refine g_icmp_ne (t := 708) (q := 156) B10 dL_refuses_153 (by decide) rfl ⟨by omega, by omega⟩ ⟨by omega, by omega⟩ (fun cq153 => absurd cq153 (by decide)) (fun cq153 => ?_)
  refine g_aload_n (q := 157) B10 dL_refuses_156 rfl 5 rfl ?_
  refine g_iconst (q := 158) B10 dL_refuses_157 rfl ?_
  refine g_iconst (q := 159) B10 dL_refuses_158 rfl ?_
  refine g_iconst (q := 160) B10 dL_refuses_159 rfl ?_
  refine g_iload_n (q := 161) B10 dL_refuses_160 rfl 6 rfl ?_
  refine g_bipush (q := 163) B10 dL_refuses_161 rfl (by decide) ?_
  refine g_irem (q := 164) B10 dL_refuses_163 rfl (by omega) (by omega) (by omega) (by omega) ?_
  refine g_iadd (q := 165) B10 dL_refuses_164 rfl ?_
  refine g_iconst (q := 166) B10 dL_refuses_165 rfl ?_
  refine g_callN (q := 169) (m1 := 1) (c2 := 6) (As := [.ref (yA Y 72), .int (iI 3), .int (iI 0), .int (iI (3 + (x % 9))), .int (iI 0)]) (st := []) B10 dL_refuses_166 rfl (k_jewelOf (Y := Y) (S := S9) hst A9 W 0 ⟨by omega, by omega⟩ (3 + (x % 9)) ⟨by omega, by omega⟩ 0 (x := -9999002) (hx := tv_2 ((if_pos (by omega)).trans (if_neg (by omega))))) eL_call w179 (by decide) rfl rfl (Nat.le_of_ble_eq_true rfl) (by omega) (Nat.le_trans (show 6 ≤ 36 by omega) E.2.1) (Nat.le_trans (show 6 * (6) ≤ 6 * 36 by omega) E.2.2) (fun v S11 hS11 => ?_)
  obtain ⟨rfl, A11, K11⟩ := hS11
  have T11 := kp_t T9 K11
  have B12 := gB_K (c := 6) B10 (Nat.le_trans (show 6 ≤ 36 by omega) E.2.1) (Nat.le_trans (show 6 * (6) ≤ 6 * 36 by omega) E.2.2)
  show gW Y (xK X (6)) S11 169 [(6, .int (iI ((-1) - (x % 9)))), (5, .int (iI ((-1) - (x % 99)))), (4, .int (iI ((-1) - (x % 99)))), (3, .int (iI (runsF (pG P)))), (2, .int (iI (pG P 0))), (0, .ref (yA Y 72)), (1, .int (iI x))] [.int (iI (-9999002))]
  refine g_ldc (z := -9999002) (q := 171) B12 dL_refuses_169 rfl w279 (by decide) ?_
  refine g_icmp_ne (t := 708) (q := 174) B12 dL_refuses_171 (by decide) rfl ⟨by omega, by omega⟩ ⟨by omega, by omega⟩ (fun cq171 => absurd cq171 (by decide)) (fun cq171 => ?_)
  refine g_aload_n (q := 175) B12 dL_refuses_174 rfl 5 rfl ?_
  refine g_iconst (q := 176) B12 dL_refuses_175 rfl ?_
  refine g_iload (q := 178) B12 dL_refuses_176 rfl 2 rfl ?_
  refine g_bipush (q := 180) B12 dL_refuses_178 rfl (by decide) ?_
  refine g_iconst (q := 181) B12 dL_refuses_180 rfl ?_
  refine g_callN (q := 184) (m1 := 1) (c2 := 7) (As := [.ref (yA Y 72), .int (iI 4), .int (iI ((-1) - (x % 99))), .int (iI 99), .int (iI 0)]) (st := []) B12 dL_refuses_181 rfl (k_placeOf (Y := Y) (S := S11) hst A11 W ((-1) - (x % 99)) ⟨by omega, by omega⟩ 99 ⟨by omega, by omega⟩ 0 (x := -9999001) (hx := tv_1 (if_neg (by omega)))) eL_call w179 (by decide) rfl rfl (Nat.le_of_ble_eq_true rfl) (by omega) (Nat.le_trans (show 7 ≤ 36 by omega) E.2.1) (Nat.le_trans (show 6 * (7) ≤ 6 * 36 by omega) E.2.2) (fun v S13 hS13 => ?_)
  obtain ⟨rfl, A13, K13⟩ := hS13
  have T13 := kp_t T11 K13
  have B14 := gB_K (c := 7) B12 (Nat.le_trans (show 7 ≤ 36 by omega) E.2.1) (Nat.le_trans (show 6 * (7) ≤ 6 * 36 by omega) E.2.2)
  show gW Y (xK X (7)) S13 184 [(6, .int (iI ((-1) - (x % 9)))), (5, .int (iI ((-1) - (x % 99)))), (4, .int (iI ((-1) - (x % 99)))), (3, .int (iI (runsF (pG P)))), (2, .int (iI (pG P 0))), (0, .ref (yA Y 72)), (1, .int (iI x))] [.int (iI (-9999001))]
  refine g_ldc (z := -9999001) (q := 186) B14 dL_refuses_184 rfl w573 (by decide) ?_
  refine g_icmp_ne (t := 708) (q := 189) B14 dL_refuses_186 (by decide) rfl ⟨by omega, by omega⟩ ⟨by omega, by omega⟩ (fun cq186 => absurd cq186 (by decide)) (fun cq186 => ?_)
  refine g_aload_n (q := 190) B14 dL_refuses_189 rfl 5 rfl ?_
  refine g_iconst (q := 191) B14 dL_refuses_190 rfl ?_
  refine g_iconst (q := 192) B14 dL_refuses_191 rfl ?_
  refine g_iconst (q := 193) B14 dL_refuses_192 rfl ?_
  refine g_iload_n (q := 194) B14 dL_refuses_193 rfl 6 rfl ?_
  refine g_bipush (q := 196) B14 dL_refuses_194 rfl (by decide) ?_
  refine g_irem (q := 197) B14 dL_refuses_196 rfl (by omega) (by omega) (by omega) (by omega) ?_
  refine g_iadd (q := 198) B14 dL_refuses_197 rfl ?_
  refine g_iconst (q := 199) B14 dL_refuses_198 rfl ?_
  refine g_callN (q := 202) (m1 := 1) (c2 := 8) (As := [.ref (yA Y 72), .int (iI 4), .int (iI 0), .int (iI (4 + (x % 9))), .int (iI 0)]) (st := []) B14 dL_refuses_199 rfl (k_placeOf (Y := Y) (S := S13) hst A13 W 0 ⟨by omega, by omega⟩ (4 + (x % 9)) ⟨by omega, by omega⟩ 0 (x := -9999002) (hx := tv_2 ((if_pos (by omega)).trans (if_neg (by omega))))) eL_call w179 (by decide) rfl rfl (Nat.le_of_ble_eq_true rfl) (by omega) (Nat.le_trans (show 8 ≤ 36 by omega) E.2.1) (Nat.le_trans (show 6 * (8) ≤ 6 * 36 by omega) E.2.2) (fun v S15 hS15 => ?_)
  obtain ⟨rfl, A15, K15⟩ := hS15
  have T15 := kp_t T13 K15
  have B16 := gB_K (c := 8) B14 (Nat.le_trans (show 8 ≤ 36 by omega) E.2.1) (Nat.le_trans (show 6 * (8) ≤ 6 * 36 by omega) E.2.2)
  show gW Y (xK X (8)) S15 202 [(6, .int (iI ((-1) - (x % 9)))), (5, .int (iI ((-1) - (x % 99)))), (4, .int (iI ((-1) - (x % 99)))), (3, .int (iI (runsF (pG P)))), (2, .int (iI (pG P 0))), (0, .ref (yA Y 72)), (1, .int (iI x))] [.int (iI (-9999002))]
  refine g_ldc (z := -9999002) (q := 204) B16 dL_refuses_202 rfl w279 (by decide) ?_
  refine g_icmp_ne (t := 708) (q := 207) B16 dL_refuses_204 (by decide) rfl ⟨by omega, by omega⟩ ⟨by omega, by omega⟩ (fun cq204 => absurd cq204 (by decide)) (fun cq204 => ?_)
  refine g_aload_n (q := 208) B16 dL_refuses_207 rfl 5 rfl ?_
  refine g_iconst (q := 209) B16 dL_refuses_208 rfl ?_
  refine g_iload (q := 211) B16 dL_refuses_209 rfl 1 rfl ?_
  refine g_bipush (q := 213) B16 dL_refuses_211 rfl (by decide) ?_
  refine g_iconst (q := 214) B16 dL_refuses_213 rfl ?_
  refine g_callN (q := 217) (m1 := 1) (c2 := 9) (As := [.ref (yA Y 72), .int (iI 5), .int (iI ((-1) - (x % 99))), .int (iI 99), .int (iI 0)]) (st := []) B16 dL_refuses_214 rfl (k_runOf (Y := Y) (S := S15) hst A15 W ((-1) - (x % 99)) ⟨by omega, by omega⟩ 99 ⟨by omega, by omega⟩ 0 (x := -9999001) (hx := tv_1 (if_neg (by omega)))) eL_call w179 (by decide) rfl rfl (Nat.le_of_ble_eq_true rfl) (by omega) (Nat.le_trans (show 9 ≤ 36 by omega) E.2.1) (Nat.le_trans (show 6 * (9) ≤ 6 * 36 by omega) E.2.2) (fun v S17 hS17 => ?_)
  obtain ⟨rfl, A17, K17⟩ := hS17
  have T17 := kp_t T15 K17
  have B18 := gB_K (c := 9) B16 (Nat.le_trans (show 9 ≤ 36 by omega) E.2.1) (Nat.le_trans (show 6 * (9) ≤ 6 * 36 by omega) E.2.2)
  show gW Y (xK X (9)) S17 217 [(6, .int (iI ((-1) - (x % 9)))), (5, .int (iI ((-1) - (x % 99)))), (4, .int (iI ((-1) - (x % 99)))), (3, .int (iI (runsF (pG P)))), (2, .int (iI (pG P 0))), (0, .ref (yA Y 72)), (1, .int (iI x))] [.int (iI (-9999001))]
  refine g_ldc (z := -9999001) (q := 219) B18 dL_refuses_217 rfl w573 (by decide) ?_
  refine g_icmp_ne (t := 708) (q := 222) B18 dL_refuses_219 (by decide) rfl ⟨by omega, by omega⟩ ⟨by omega, by omega⟩ (fun cq219 => absurd cq219 (by decide)) (fun cq219 => ?_)
  refine g_aload_n (q := 223) B18 dL_refuses_222 rfl 5 rfl ?_
  refine g_iconst (q := 224) B18 dL_refuses_223 rfl ?_
  refine g_iconst (q := 225) B18 dL_refuses_224 rfl ?_
  refine g_iconst (q := 226) B18 dL_refuses_225 rfl ?_
  refine g_iload_n (q := 227) B18 dL_refuses_226 rfl 6 rfl ?_
  refine g_bipush (q := 229) B18 dL_refuses_227 rfl (by decide) ?_
  refine g_irem (q := 230) B18 dL_refuses_229 rfl (by omega) (by omega) (by omega) (by omega) ?_
  refine g_iadd (q := 231) B18 dL_refuses_230 rfl ?_
  refine g_iconst (q := 232) B18 dL_refuses_231 rfl ?_
  refine g_callN (q := 235) (m1 := 1) (c2 := 10) (As := [.ref (yA Y 72), .int (iI 5), .int (iI 0), .int (iI (4 + (x % 9))), .int (iI 0)]) (st := []) B18 dL_refuses_232 rfl (k_runOf (Y := Y) (S := S17) hst A17 W 0 ⟨by omega, by omega⟩ (4 + (x % 9)) ⟨by omega, by omega⟩ 0 (x := -9999002) (hx := tv_2 ((if_pos (by omega)).trans (if_neg (by omega))))) eL_call w179 (by decide) rfl rfl (Nat.le_of_ble_eq_true rfl) (by omega) (Nat.le_trans (show 10 ≤ 36 by omega) E.2.1) (Nat.le_trans (show 6 * (10) ≤ 6 * 36 by omega) E.2.2) (fun v S19 hS19 => ?_)
  obtain ⟨rfl, A19, K19⟩ := hS19
  have T19 := kp_t T17 K19
  have B20 := gB_K (c := 10) B18 (Nat.le_trans (show 10 ≤ 36 by omega) E.2.1) (Nat.le_trans (show 6 * (10) ≤ 6 * 36 by omega) E.2.2)
  show gW Y (xK X (10)) S19 235 [(6, .int (iI ((-1) - (x % 9)))), (5, .int (iI ((-1) - (x % 99)))), (4, .int (iI ((-1) - (x % 99)))), (3, .int (iI (runsF (pG P)))), (2, .int (iI (pG P 0))), (0, .ref (yA Y 72)), (1, .int (iI x))] [.int (iI (-9999002))]
  refine g_ldc (z := -9999002) (q := 237) B20 dL_refuses_235 rfl w279 (by decide) ?_
  refine g_icmp_ne (t := 708) (q := 240) B20 dL_refuses_237 (by decide) rfl ⟨by omega, by omega⟩ ⟨by omega, by omega⟩ (fun cq237 => absurd cq237 (by decide)) (fun cq237 => ?_)
  refine g_aload_n (q := 241) B20 dL_refuses_240 rfl 5 rfl ?_
  refine g_bipush (q := 243) B20 dL_refuses_241 rfl (by decide) ?_
  refine g_iload (q := 245) B20 dL_refuses_243 rfl 0 rfl ?_
  refine g_iconst (q := 246) B20 dL_refuses_245 rfl ?_
  refine g_iconst (q := 247) B20 dL_refuses_246 rfl ?_
  refine g_callN (q := 250) (m1 := 1) (c2 := 11) (As := [.ref (yA Y 72), .int (iI 6), .int (iI ((-1) - (x % 9))), .int (iI 0), .int (iI 0)]) (st := []) B20 dL_refuses_247 rfl (k_has (Y := Y) (S := S19) hst A19 W ((-1) - (x % 9)) ⟨by omega, by omega⟩ 0 ⟨by omega, by omega⟩ 0 (x := -9999001) (hx := tv_1 (if_neg (by omega)))) eL_call w179 (by decide) rfl rfl (Nat.le_of_ble_eq_true rfl) (by omega) (Nat.le_trans (show 11 ≤ 36 by omega) E.2.1) (Nat.le_trans (show 6 * (11) ≤ 6 * 36 by omega) E.2.2) (fun v S21 hS21 => ?_)
  obtain ⟨rfl, A21, K21⟩ := hS21
  have T21 := kp_t T19 K21
  have B22 := gB_K (c := 11) B20 (Nat.le_trans (show 11 ≤ 36 by omega) E.2.1) (Nat.le_trans (show 6 * (11) ≤ 6 * 36 by omega) E.2.2)
  show gW Y (xK X (11)) S21 250 [(6, .int (iI ((-1) - (x % 9)))), (5, .int (iI ((-1) - (x % 99)))), (4, .int (iI ((-1) - (x % 99)))), (3, .int (iI (runsF (pG P)))), (2, .int (iI (pG P 0))), (0, .ref (yA Y 72)), (1, .int (iI x))] [.int (iI (-9999001))]
  refine g_ldc (z := -9999001) (q := 252) B22 dL_refuses_250 rfl w573 (by decide) ?_
  refine g_icmp_ne (t := 708) (q := 255) B22 dL_refuses_252 (by decide) rfl ⟨by omega, by omega⟩ ⟨by omega, by omega⟩ (fun cq252 => absurd cq252 (by decide)) (fun cq252 => ?_)
  refine g_aload_n (q := 256) B22 dL_refuses_255 rfl 5 rfl ?_
  refine g_bipush (q := 258) B22 dL_refuses_256 rfl (by decide) ?_
  refine g_iconst (q := 259) B22 dL_refuses_258 rfl ?_
  refine g_iload_n (q := 260) B22 dL_refuses_259 rfl 6 rfl ?_
  refine g_iconst (q := 261) B22 dL_refuses_260 rfl ?_
  refine g_irem (q := 262) B22 dL_refuses_261 rfl (by omega) (by omega) (by omega) (by omega) ?_
  refine g_if_ne (t := 269) (q := 265) B22 dL_refuses_262 (by decide) rfl ⟨by omega, by omega⟩ (fun cq262 => absurd cq262 (by omega)) (fun cq262 => ?_)
  refine g_iconst (q := 266) B22 dL_refuses_265 rfl ?_
  refine g_goto (q := 275) B22 dL_refuses_266 (by decide) ?_
  refine g_iconst (q := 276) B22 dL_refuses_275 rfl ?_
  refine g_callN (q := 279) (m1 := 1) (c2 := 12) (As := [.ref (yA Y 72), .int (iI 6), .int (iI 0), .int (iI (-1)), .int (iI 0)]) (st := []) B22 dL_refuses_276 rfl (k_has (Y := Y) (S := S21) hst A21 W 0 ⟨by omega, by omega⟩ (-1) ⟨by omega, by omega⟩ 0 (x := -9999001) (hx := tv_1 ((if_pos (by omega)).trans (if_neg (by omega))))) eL_call w179 (by decide) rfl rfl (Nat.le_of_ble_eq_true rfl) (by omega) (Nat.le_trans (show 12 ≤ 36 by omega) E.2.1) (Nat.le_trans (show 6 * (12) ≤ 6 * 36 by omega) E.2.2) (fun v S23 hS23 => ?_)
  obtain ⟨rfl, A23, K23⟩ := hS23
  have T23 := kp_t T21 K23
  have B24 := gB_K (c := 12) B22 (Nat.le_trans (show 12 ≤ 36 by omega) E.2.1) (Nat.le_trans (show 6 * (12) ≤ 6 * 36 by omega) E.2.2)
  show gW Y (xK X (12)) S23 279 [(6, .int (iI ((-1) - (x % 9)))), (5, .int (iI ((-1) - (x % 99)))), (4, .int (iI ((-1) - (x % 99)))), (3, .int (iI (runsF (pG P)))), (2, .int (iI (pG P 0))), (0, .ref (yA Y 72)), (1, .int (iI x))] [.int (iI (-9999001))]
  refine g_ldc (z := -9999001) (q := 281) B24 dL_refuses_279 rfl w573 (by decide) ?_
  refine g_icmp_ne (t := 708) (q := 284) B24 dL_refuses_281 (by decide) rfl ⟨by omega, by omega⟩ ⟨by omega, by omega⟩ (fun cq281 => absurd cq281 (by decide)) (fun cq281 => ?_)
  refine g_aload_n (q := 285) B24 dL_refuses_284 rfl 5 rfl ?_
  refine g_bipush (q := 287) B24 dL_refuses_285 rfl (by decide) ?_
  refine g_iload_n (q := 288) B24 dL_refuses_287 rfl 6 rfl ?_
  refine g_iconst (q := 289) B24 dL_refuses_288 rfl ?_
  refine g_irem (q := 290) B24 dL_refuses_289 rfl (by omega) (by omega) (by omega) (by omega) ?_
  refine g_if_ne (t := 297) (q := 293) B24 dL_refuses_290 (by decide) rfl ⟨by omega, by omega⟩ (fun cq290 => absurd cq290 (by omega)) (fun cq290 => ?_)
  refine g_iconst (q := 294) B24 dL_refuses_293 rfl ?_
  refine g_goto (q := 303) B24 dL_refuses_294 (by decide) ?_
  refine g_iconst (q := 304) B24 dL_refuses_303 rfl ?_
  refine g_iconst (q := 305) B24 dL_refuses_304 rfl ?_
  refine g_callN (q := 308) (m1 := 1) (c2 := 13) (As := [.ref (yA Y 72), .int (iI 7), .int (iI (-1)), .int (iI 0), .int (iI 0)]) (st := []) B24 dL_refuses_305 rfl (k_jewel (Y := Y) (S := S23) hst A23 W (-1) ⟨by omega, by omega⟩ 0 ⟨by omega, by omega⟩ 0 (x := -9999001) (hx := tv_1 (if_neg (by omega))) (P' := P) (hP := if_neg (ne1 (if_neg (by omega))))) eL_call w179 (by decide) rfl rfl (Nat.le_of_ble_eq_true rfl) (by omega) (Nat.le_trans (show 13 ≤ 36 by omega) E.2.1) (Nat.le_trans (show 6 * (13) ≤ 6 * 36 by omega) E.2.2) (fun v S25 hS25 => ?_)
  obtain ⟨rfl, A25, K25⟩ := hS25
  have T25 := kp_t T23 K25
  have B26 := gB_K (c := 13) B24 (Nat.le_trans (show 13 ≤ 36 by omega) E.2.1) (Nat.le_trans (show 6 * (13) ≤ 6 * 36 by omega) E.2.2)
  show gW Y (xK X (13)) S25 308 [(6, .int (iI ((-1) - (x % 9)))), (5, .int (iI ((-1) - (x % 99)))), (4, .int (iI ((-1) - (x % 99)))), (3, .int (iI (runsF (pG P)))), (2, .int (iI (pG P 0))), (0, .ref (yA Y 72)), (1, .int (iI x))] [.int (iI (-9999001))]
  refine g_ldc (z := -9999001) (q := 310) B26 dL_refuses_308 rfl w573 (by decide) ?_
  refine g_icmp_ne (t := 708) (q := 313) B26 dL_refuses_310 (by decide) rfl ⟨by omega, by omega⟩ ⟨by omega, by omega⟩ (fun cq310 => absurd cq310 (by decide)) (fun cq310 => ?_)
  refine g_aload_n (q := 314) B26 dL_refuses_313 rfl 5 rfl ?_
  refine g_bipush (q := 316) B26 dL_refuses_314 rfl (by decide) ?_
  refine g_iconst (q := 317) B26 dL_refuses_316 rfl ?_
  refine g_iload_n (q := 318) B26 dL_refuses_317 rfl 6 rfl ?_
  refine g_iconst (q := 319) B26 dL_refuses_318 rfl ?_
  refine g_irem (q := 320) B26 dL_refuses_319 rfl (by omega) (by omega) (by omega) (by omega) ?_
  refine g_if_ne (t := 327) (q := 323) B26 dL_refuses_320 (by decide) rfl ⟨by omega, by omega⟩ (fun cq320 => absurd cq320 (by omega)) (fun cq320 => ?_)
  refine g_iconst (q := 324) B26 dL_refuses_323 rfl ?_
  refine g_goto (q := 334) B26 dL_refuses_324 (by decide) ?_
  refine g_iconst (q := 335) B26 dL_refuses_334 rfl ?_
  refine g_callN (q := 338) (m1 := 1) (c2 := 14) (As := [.ref (yA Y 72), .int (iI 7), .int (iI 0), .int (iI 0), .int (iI 0)]) (st := []) B26 dL_refuses_335 rfl (k_jewel (Y := Y) (S := S25) hst A25 W 0 ⟨by omega, by omega⟩ 0 ⟨by omega, by omega⟩ 0 (x := -9999002) (hx := tv_2 ((if_pos (by omega)).trans (if_neg (by omega)))) (P' := P) (hP := if_neg (ne2 ((if_pos (by omega)).trans (if_neg (by omega)))))) eL_call w179 (by decide) rfl rfl (Nat.le_of_ble_eq_true rfl) (by omega) (Nat.le_trans (show 14 ≤ 36 by omega) E.2.1) (Nat.le_trans (show 6 * (14) ≤ 6 * 36 by omega) E.2.2) (fun v S27 hS27 => ?_)
  obtain ⟨rfl, A27, K27⟩ := hS27
  have T27 := kp_t T25 K27
  have B28 := gB_K (c := 14) B26 (Nat.le_trans (show 14 ≤ 36 by omega) E.2.1) (Nat.le_trans (show 6 * (14) ≤ 6 * 36 by omega) E.2.2)
  show gW Y (xK X (14)) S27 338 [(6, .int (iI ((-1) - (x % 9)))), (5, .int (iI ((-1) - (x % 99)))), (4, .int (iI ((-1) - (x % 99)))), (3, .int (iI (runsF (pG P)))), (2, .int (iI (pG P 0))), (0, .ref (yA Y 72)), (1, .int (iI x))] [.int (iI (-9999002))]
  refine g_ldc (z := -9999002) (q := 340) B28 dL_refuses_338 rfl w279 (by decide) ?_
  refine g_icmp_ne (t := 708) (q := 343) B28 dL_refuses_340 (by decide) rfl ⟨by omega, by omega⟩ ⟨by omega, by omega⟩ (fun cq340 => absurd cq340 (by decide)) (fun cq340 => ?_)
  refine g_aload_n (q := 344) B28 dL_refuses_343 rfl 5 rfl ?_
  refine g_bipush (q := 346) B28 dL_refuses_344 rfl (by decide) ?_
  refine g_iload (q := 348) B28 dL_refuses_346 rfl 2 rfl ?_
  refine g_iconst (q := 349) B28 dL_refuses_348 rfl ?_
  refine g_iconst (q := 350) B28 dL_refuses_349 rfl ?_
  refine g_callN (q := 353) (m1 := 1) (c2 := 15) (As := [.ref (yA Y 72), .int (iI 8), .int (iI ((-1) - (x % 99))), .int (iI 0), .int (iI 0)]) (st := []) B28 dL_refuses_350 rfl (k_exchange (Y := Y) (S := S27) hst A27 W ((-1) - (x % 99)) ⟨by omega, by omega⟩ 0 ⟨by omega, by omega⟩ 0 (x := -9999001) (hx := tv_1 (if_neg (by omega))) (P' := P) (hP := if_neg (ne1 (if_neg (by omega))))) eL_call w179 (by decide) rfl rfl (Nat.le_of_ble_eq_true rfl) (by omega) (Nat.le_trans (show 15 ≤ 36 by omega) E.2.1) (Nat.le_trans (show 6 * (15) ≤ 6 * 36 by omega) E.2.2) (fun v S29 hS29 => ?_)
  obtain ⟨rfl, A29, K29⟩ := hS29
  have T29 := kp_t T27 K29
  have B30 := gB_K (c := 15) B28 (Nat.le_trans (show 15 ≤ 36 by omega) E.2.1) (Nat.le_trans (show 6 * (15) ≤ 6 * 36 by omega) E.2.2)
  show gW Y (xK X (15)) S29 353 [(6, .int (iI ((-1) - (x % 9)))), (5, .int (iI ((-1) - (x % 99)))), (4, .int (iI ((-1) - (x % 99)))), (3, .int (iI (runsF (pG P)))), (2, .int (iI (pG P 0))), (0, .ref (yA Y 72)), (1, .int (iI x))] [.int (iI (-9999001))]
  refine g_ldc (z := -9999001) (q := 355) B30 dL_refuses_353 rfl w573 (by decide) ?_
  refine g_icmp_ne (t := 708) (q := 358) B30 dL_refuses_355 (by decide) rfl ⟨by omega, by omega⟩ ⟨by omega, by omega⟩ (fun cq355 => absurd cq355 (by decide)) (fun cq355 => ?_)
  refine g_aload_n (q := 359) B30 dL_refuses_358 rfl 5 rfl ?_
  refine g_bipush (q := 361) B30 dL_refuses_359 rfl (by decide) ?_
  refine g_iconst (q := 362) B30 dL_refuses_361 rfl ?_
  refine g_iload (q := 364) B30 dL_refuses_362 rfl 2 rfl ?_
  refine g_iconst (q := 365) B30 dL_refuses_364 rfl ?_
  refine g_callN (q := 368) (m1 := 1) (c2 := 16) (As := [.ref (yA Y 72), .int (iI 8), .int (iI 0), .int (iI ((-1) - (x % 99))), .int (iI 0)]) (st := []) B30 dL_refuses_365 rfl (k_exchange (Y := Y) (S := S29) hst A29 W 0 ⟨by omega, by omega⟩ ((-1) - (x % 99)) ⟨by omega, by omega⟩ 0 (x := -9999001) (hx := tv_1 (if_neg (by omega))) (P' := P) (hP := if_neg (ne1 (if_neg (by omega))))) eL_call w179 (by decide) rfl rfl (Nat.le_of_ble_eq_true rfl) (by omega) (Nat.le_trans (show 16 ≤ 36 by omega) E.2.1) (Nat.le_trans (show 6 * (16) ≤ 6 * 36 by omega) E.2.2) (fun v S31 hS31 => ?_)
  obtain ⟨rfl, A31, K31⟩ := hS31
  have T31 := kp_t T29 K31
  have B32 := gB_K (c := 16) B30 (Nat.le_trans (show 16 ≤ 36 by omega) E.2.1) (Nat.le_trans (show 6 * (16) ≤ 6 * 36 by omega) E.2.2)
  show gW Y (xK X (16)) S31 368 [(6, .int (iI ((-1) - (x % 9)))), (5, .int (iI ((-1) - (x % 99)))), (4, .int (iI ((-1) - (x % 99)))), (3, .int (iI (runsF (pG P)))), (2, .int (iI (pG P 0))), (0, .ref (yA Y 72)), (1, .int (iI x))] [.int (iI (-9999001))]
  refine g_ldc (z := -9999001) (q := 370) B32 dL_refuses_368 rfl w573 (by decide) ?_
  refine g_icmp_ne (t := 708) (q := 373) B32 dL_refuses_370 (by decide) rfl ⟨by omega, by omega⟩ ⟨by omega, by omega⟩ (fun cq370 => absurd cq370 (by decide)) (fun cq370 => ?_)
  refine g_aload_n (q := 374) B32 dL_refuses_373 rfl 5 rfl ?_
  refine g_bipush (q := 376) B32 dL_refuses_374 rfl (by decide) ?_
  refine g_iload (q := 378) B32 dL_refuses_376 rfl 2 rfl ?_
  refine g_iconst (q := 379) B32 dL_refuses_378 rfl ?_
  refine g_iconst (q := 380) B32 dL_refuses_379 rfl ?_
  refine g_callN (q := 383) (m1 := 1) (c2 := 17) (As := [.ref (yA Y 72), .int (iI 9), .int (iI ((-1) - (x % 99))), .int (iI 0), .int (iI 0)]) (st := []) B32 dL_refuses_380 rfl (k_breakAt (Y := Y) (S := S31) hst A31 W ((-1) - (x % 99)) ⟨by omega, by omega⟩ 0 0 (x := -9999001) (hx := tv_1 (if_neg (by omega))) (P' := P) (hP := if_neg (ne1 (if_neg (by omega))))) eL_call w179 (by decide) rfl rfl (Nat.le_of_ble_eq_true rfl) (by omega) (Nat.le_trans (show 17 ≤ 36 by omega) E.2.1) (Nat.le_trans (show 6 * (17) ≤ 6 * 36 by omega) E.2.2) (fun v S33 hS33 => ?_)
  obtain ⟨rfl, A33, K33⟩ := hS33
  have T33 := kp_t T31 K33
  have B34 := gB_K (c := 17) B32 (Nat.le_trans (show 17 ≤ 36 by omega) E.2.1) (Nat.le_trans (show 6 * (17) ≤ 6 * 36 by omega) E.2.2)
  show gW Y (xK X (17)) S33 383 [(6, .int (iI ((-1) - (x % 9)))), (5, .int (iI ((-1) - (x % 99)))), (4, .int (iI ((-1) - (x % 99)))), (3, .int (iI (runsF (pG P)))), (2, .int (iI (pG P 0))), (0, .ref (yA Y 72)), (1, .int (iI x))] [.int (iI (-9999001))]
  refine g_ldc (z := -9999001) (q := 385) B34 dL_refuses_383 rfl w573 (by decide) ?_
  refine g_icmp_ne (t := 708) (q := 388) B34 dL_refuses_385 (by decide) rfl ⟨by omega, by omega⟩ ⟨by omega, by omega⟩ (fun cq385 => absurd cq385 (by decide)) (fun cq385 => ?_)
  refine g_aload_n (q := 389) B34 dL_refuses_388 rfl 5 rfl ?_
  refine g_iconst (q := 390) B34 dL_refuses_389 rfl ?_
  refine g_iconst (q := 391) B34 dL_refuses_390 rfl ?_
  refine g_callW (q := 394) (c2 := 18) (As := [.ref (yA Y 72), .int (iI 0), .int (iI 1)]) (st := []) B34 dL_refuses_391 rfl (k_cut (Y := Y) (S := S33) hst A33 W 1 (by decide) 0 ⟨by omega, by omega⟩  (x := -9999001) (hx := tv_1 (if_neg (by omega))) (P' := P) (hP := if_neg (ne1 (if_neg (by omega))))) eL_cuts w844 (by decide) rfl rfl (Nat.le_of_ble_eq_true rfl) (by omega) (Nat.le_trans (show 18 ≤ 36 by omega) E.2.1) (Nat.le_trans (show 6 * (18) ≤ 6 * 36 by omega) E.2.2) (fun v S35 hS35 => ?_)
  obtain ⟨rfl, A35, K35⟩ := hS35
  have T35 := kp_t T33 K35
  have B36 := gB_K (c := 18) B34 (Nat.le_trans (show 18 ≤ 36 by omega) E.2.1) (Nat.le_trans (show 6 * (18) ≤ 6 * 36 by omega) E.2.2)
  show gW Y (xK X (18)) S35 394 [(6, .int (iI ((-1) - (x % 9)))), (5, .int (iI ((-1) - (x % 99)))), (4, .int (iI ((-1) - (x % 99)))), (3, .int (iI (runsF (pG P)))), (2, .int (iI (pG P 0))), (0, .ref (yA Y 72)), (1, .int (iI x))] [.int (iI (-9999001))]
  refine g_ldc (z := -9999001) (q := 396) B36 dL_refuses_394 rfl w573 (by decide) ?_
  refine g_icmp_ne (t := 708) (q := 399) B36 dL_refuses_396 (by decide) rfl ⟨by omega, by omega⟩ ⟨by omega, by omega⟩ (fun cq396 => absurd cq396 (by decide)) (fun cq396 => ?_)
  refine g_aload_n (q := 400) B36 dL_refuses_399 rfl 5 rfl ?_
  refine g_iload (q := 402) B36 dL_refuses_400 rfl 2 rfl ?_
  refine g_iconst (q := 403) B36 dL_refuses_402 rfl ?_
  refine g_callW (q := 406) (c2 := 19) (As := [.ref (yA Y 72), .int (iI ((-1) - (x % 99))), .int (iI 0)]) (st := []) B36 dL_refuses_403 rfl (k_cut (Y := Y) (S := S35) hst A35 W 0 (by decide) ((-1) - (x % 99)) ⟨by omega, by omega⟩  (x := -9999001) (hx := tv_1 (if_neg (by omega))) (P' := P) (hP := if_neg (ne1 (if_neg (by omega))))) eL_cuts w844 (by decide) rfl rfl (Nat.le_of_ble_eq_true rfl) (by omega) (Nat.le_trans (show 19 ≤ 36 by omega) E.2.1) (Nat.le_trans (show 6 * (19) ≤ 6 * 36 by omega) E.2.2) (fun v S37 hS37 => ?_)
  obtain ⟨rfl, A37, K37⟩ := hS37
  have T37 := kp_t T35 K37
  have B38 := gB_K (c := 19) B36 (Nat.le_trans (show 19 ≤ 36 by omega) E.2.1) (Nat.le_trans (show 6 * (19) ≤ 6 * 36 by omega) E.2.2)
  show gW Y (xK X (19)) S37 406 [(6, .int (iI ((-1) - (x % 9)))), (5, .int (iI ((-1) - (x % 99)))), (4, .int (iI ((-1) - (x % 99)))), (3, .int (iI (runsF (pG P)))), (2, .int (iI (pG P 0))), (0, .ref (yA Y 72)), (1, .int (iI x))] [.int (iI (-9999001))]
  refine g_ldc (z := -9999001) (q := 408) B38 dL_refuses_406 rfl w573 (by decide) ?_
  refine g_icmp_ne (t := 708) (q := 411) B38 dL_refuses_408 (by decide) rfl ⟨by omega, by omega⟩ ⟨by omega, by omega⟩ (fun cq408 => absurd cq408 (by decide)) (fun cq408 => ?_)
  refine g_aload_n (q := 412) B38 dL_refuses_411 rfl 5 rfl ?_
  refine g_bipush (q := 414) B38 dL_refuses_412 rfl (by decide) ?_
  refine g_iload (q := 416) B38 dL_refuses_414 rfl 1 rfl ?_
  refine g_bipush (q := 418) B38 dL_refuses_416 rfl (by decide) ?_
  refine g_iconst (q := 419) B38 dL_refuses_418 rfl ?_
  refine g_callN (q := 422) (m1 := 1) (c2 := 20) (As := [.ref (yA Y 72), .int (iI 10), .int (iI ((-1) - (x % 99))), .int (iI 9), .int (iI 0)]) (st := []) B38 dL_refuses_419 rfl (k_give (Y := Y) (S := S37) hst A37 W ((-1) - (x % 99)) ⟨by omega, by omega⟩ 9 ⟨by omega, by omega⟩ 0 (x := -9999001) (hx := tv_1 (if_neg (by omega))) (P' := P) (hP := if_neg (ne1 (if_neg (by omega))))) eL_call w179 (by decide) rfl rfl (Nat.le_of_ble_eq_true rfl) (by omega) (Nat.le_trans (show 20 ≤ 36 by omega) E.2.1) (Nat.le_trans (show 6 * (20) ≤ 6 * 36 by omega) E.2.2) (fun v S39 hS39 => ?_)
  obtain ⟨rfl, A39, K39⟩ := hS39
  have T39 := kp_t T37 K39
  have B40 := gB_K (c := 20) B38 (Nat.le_trans (show 20 ≤ 36 by omega) E.2.1) (Nat.le_trans (show 6 * (20) ≤ 6 * 36 by omega) E.2.2)
  show gW Y (xK X (20)) S39 422 [(6, .int (iI ((-1) - (x % 9)))), (5, .int (iI ((-1) - (x % 99)))), (4, .int (iI ((-1) - (x % 99)))), (3, .int (iI (runsF (pG P)))), (2, .int (iI (pG P 0))), (0, .ref (yA Y 72)), (1, .int (iI x))] [.int (iI (-9999001))]
  refine g_ldc (z := -9999001) (q := 424) B40 dL_refuses_422 rfl w573 (by decide) ?_
  refine g_icmp_ne (t := 708) (q := 427) B40 dL_refuses_424 (by decide) rfl ⟨by omega, by omega⟩ ⟨by omega, by omega⟩ (fun cq424 => absurd cq424 (by decide)) (fun cq424 => ?_)
  refine g_aload_n (q := 428) B40 dL_refuses_427 rfl 5 rfl ?_
  refine g_bipush (q := 430) B40 dL_refuses_428 rfl (by decide) ?_
  refine g_iconst (q := 431) B40 dL_refuses_430 rfl ?_
  refine g_iload_n (q := 432) B40 dL_refuses_431 rfl 6 rfl ?_
  refine g_iconst (q := 433) B40 dL_refuses_432 rfl ?_
  refine g_irem (q := 434) B40 dL_refuses_433 rfl (by omega) (by omega) (by omega) (by omega) ?_
  refine g_if_ne (t := 447) (q := 437) B40 dL_refuses_434 (by decide) rfl ⟨by omega, by omega⟩ (fun cq434 => absurd cq434 (by omega)) (fun cq434 => ?_)
  refine g_bipush (q := 439) B40 dL_refuses_437 rfl (by decide) ?_
  refine g_iload_n (q := 440) B40 dL_refuses_439 rfl 6 rfl ?_
  refine g_bipush (q := 442) B40 dL_refuses_440 rfl (by decide) ?_
  refine g_irem (q := 443) B40 dL_refuses_442 rfl (by omega) (by omega) (by omega) (by omega) ?_
  refine g_isub (q := 444) B40 dL_refuses_443 rfl ?_
  refine g_goto (q := 453) B40 dL_refuses_444 (by decide) ?_
  refine g_iconst (q := 454) B40 dL_refuses_453 rfl ?_
  refine g_callN (q := 457) (m1 := 1) (c2 := 21) (As := [.ref (yA Y 72), .int (iI 10), .int (iI 0), .int (iI ((-2) - (x % 9))), .int (iI 0)]) (st := []) B40 dL_refuses_454 rfl (k_give (Y := Y) (S := S39) hst A39 W 0 ⟨by omega, by omega⟩ ((-2) - (x % 9)) ⟨by omega, by omega⟩ 0 (x := -9999002) (hx := tv_2 ((if_pos (by omega)).trans (if_neg (by omega)))) (P' := P) (hP := if_neg (ne2 ((if_pos (by omega)).trans (if_neg (by omega)))))) eL_call w179 (by decide) rfl rfl (Nat.le_of_ble_eq_true rfl) (by omega) (Nat.le_trans (show 21 ≤ 36 by omega) E.2.1) (Nat.le_trans (show 6 * (21) ≤ 6 * 36 by omega) E.2.2) (fun v S41 hS41 => ?_)
  obtain ⟨rfl, A41, K41⟩ := hS41
  have T41 := kp_t T39 K41
  have B42 := gB_K (c := 21) B40 (Nat.le_trans (show 21 ≤ 36 by omega) E.2.1) (Nat.le_trans (show 6 * (21) ≤ 6 * 36 by omega) E.2.2)
  show gW Y (xK X (21)) S41 457 [(6, .int (iI ((-1) - (x % 9)))), (5, .int (iI ((-1) - (x % 99)))), (4, .int (iI ((-1) - (x % 99)))), (3, .int (iI (runsF (pG P)))), (2, .int (iI (pG P 0))), (0, .ref (yA Y 72)), (1, .int (iI x))] [.int (iI (-9999002))]
  refine g_ldc (z := -9999002) (q := 459) B42 dL_refuses_457 rfl w279 (by decide) ?_
  refine g_icmp_ne (t := 708) (q := 462) B42 dL_refuses_459 (by decide) rfl ⟨by omega, by omega⟩ ⟨by omega, by omega⟩ (fun cq459 => absurd cq459 (by decide)) (fun cq459 => ?_)
  refine g_aload_n (q := 463) B42 dL_refuses_462 rfl 5 rfl ?_
  refine g_bipush (q := 465) B42 dL_refuses_463 rfl (by decide) ?_
  refine g_iload (q := 467) B42 dL_refuses_465 rfl 1 rfl ?_
  refine g_iconst (q := 468) B42 dL_refuses_467 rfl ?_
  refine g_iconst (q := 469) B42 dL_refuses_468 rfl ?_
  refine g_callN (q := 472) (m1 := 1) (c2 := 22) (As := [.ref (yA Y 72), .int (iI 11), .int (iI ((-1) - (x % 99))), .int (iI 0), .int (iI 0)]) (st := []) B42 dL_refuses_469 rfl (k_take (Y := Y) (S := S41) hst A41 W ((-1) - (x % 99)) ⟨by omega, by omega⟩ 0 0 (x := -9999001) (hx := tv_1 (if_neg (by omega))) (P' := P) (hP := if_neg (ne1 (if_neg (by omega))))) eL_call w179 (by decide) rfl rfl (Nat.le_of_ble_eq_true rfl) (by omega) (Nat.le_trans (show 22 ≤ 36 by omega) E.2.1) (Nat.le_trans (show 6 * (22) ≤ 6 * 36 by omega) E.2.2) (fun v S43 hS43 => ?_)
  obtain ⟨rfl, A43, K43⟩ := hS43
  have T43 := kp_t T41 K43
  have B44 := gB_K (c := 22) B42 (Nat.le_trans (show 22 ≤ 36 by omega) E.2.1) (Nat.le_trans (show 6 * (22) ≤ 6 * 36 by omega) E.2.2)
  show gW Y (xK X (22)) S43 472 [(6, .int (iI ((-1) - (x % 9)))), (5, .int (iI ((-1) - (x % 99)))), (4, .int (iI ((-1) - (x % 99)))), (3, .int (iI (runsF (pG P)))), (2, .int (iI (pG P 0))), (0, .ref (yA Y 72)), (1, .int (iI x))] [.int (iI (-9999001))]
  refine g_ldc (z := -9999001) (q := 474) B44 dL_refuses_472 rfl w573 (by decide) ?_
  refine g_icmp_ne (t := 708) (q := 477) B44 dL_refuses_474 (by decide) rfl ⟨by omega, by omega⟩ ⟨by omega, by omega⟩ (fun cq474 => absurd cq474 (by decide)) (fun cq474 => ?_)
  refine g_aload_n (q := 478) B44 dL_refuses_477 rfl 5 rfl ?_
  refine g_bipush (q := 480) B44 dL_refuses_478 rfl (by decide) ?_
  refine g_iload (q := 482) B44 dL_refuses_480 rfl 0 rfl ?_
  refine g_iconst (q := 483) B44 dL_refuses_482 rfl ?_
  refine g_iconst (q := 484) B44 dL_refuses_483 rfl ?_
  refine g_callN (q := 487) (m1 := 1) (c2 := 23) (As := [.ref (yA Y 72), .int (iI 12), .int (iI ((-1) - (x % 9))), .int (iI 0), .int (iI 0)]) (st := []) B44 dL_refuses_484 rfl (k_deal (Y := Y) (S := S43) hst A43 W ((-1) - (x % 9)) ⟨by omega, by omega⟩ 0 0 (x := -9999001) (hx := tv_1 (if_neg (by omega))) (P' := P) (hP := if_neg (ne1 (if_neg (by omega))))) eL_call w179 (by decide) rfl rfl (Nat.le_of_ble_eq_true rfl) (by omega) (Nat.le_trans (show 23 ≤ 36 by omega) E.2.1) (Nat.le_trans (show 6 * (23) ≤ 6 * 36 by omega) E.2.2) (fun v S45 hS45 => ?_)
  obtain ⟨rfl, A45, K45⟩ := hS45
  have T45 := kp_t T43 K45
  have B46 := gB_K (c := 23) B44 (Nat.le_trans (show 23 ≤ 36 by omega) E.2.1) (Nat.le_trans (show 6 * (23) ≤ 6 * 36 by omega) E.2.2)
  show gW Y (xK X (23)) S45 487 [(6, .int (iI ((-1) - (x % 9)))), (5, .int (iI ((-1) - (x % 99)))), (4, .int (iI ((-1) - (x % 99)))), (3, .int (iI (runsF (pG P)))), (2, .int (iI (pG P 0))), (0, .ref (yA Y 72)), (1, .int (iI x))] [.int (iI (-9999001))]
  refine g_ldc (z := -9999001) (q := 489) B46 dL_refuses_487 rfl w573 (by decide) ?_
  refine g_icmp_ne (t := 708) (q := 492) B46 dL_refuses_489 (by decide) rfl ⟨by omega, by omega⟩ ⟨by omega, by omega⟩ (fun cq489 => absurd cq489 (by decide)) (fun cq489 => ?_)
  refine g_aload_n (q := 493) B46 dL_refuses_492 rfl 5 rfl ?_
  refine g_bipush (q := 495) B46 dL_refuses_493 rfl (by decide) ?_
  refine g_iload (q := 497) B46 dL_refuses_495 rfl 0 rfl ?_
  refine g_iconst (q := 498) B46 dL_refuses_497 rfl ?_
  refine g_iconst (q := 499) B46 dL_refuses_498 rfl ?_
  refine g_callN (q := 502) (m1 := 1) (c2 := 24) (As := [.ref (yA Y 72), .int (iI 14), .int (iI ((-1) - (x % 9))), .int (iI 0), .int (iI 0)]) (st := []) B46 dL_refuses_499 rfl (k_set (Y := Y) (S := S45) hst A45 W ((-1) - (x % 9)) ⟨by omega, by omega⟩ 0 0 (x := -9999002) (hx := tv_1 (if_neg (by omega))) (P' := P) (hP := if_neg (ne1 (if_neg (by omega))))) eL_call w179 (by decide) rfl rfl (Nat.le_of_ble_eq_true rfl) (by omega) (Nat.le_trans (show 24 ≤ 36 by omega) E.2.1) (Nat.le_trans (show 6 * (24) ≤ 6 * 36 by omega) E.2.2) (fun v S47 hS47 => ?_)
  obtain ⟨rfl, A47, K47⟩ := hS47
  have T47 := kp_t T45 K47
  have B48 := gB_K (c := 24) B46 (Nat.le_trans (show 24 ≤ 36 by omega) E.2.1) (Nat.le_trans (show 6 * (24) ≤ 6 * 36 by omega) E.2.2)
  show gW Y (xK X (24)) S47 502 [(6, .int (iI ((-1) - (x % 9)))), (5, .int (iI ((-1) - (x % 99)))), (4, .int (iI ((-1) - (x % 99)))), (3, .int (iI (runsF (pG P)))), (2, .int (iI (pG P 0))), (0, .ref (yA Y 72)), (1, .int (iI x))] [.int (iI (-9999002))]
  refine g_ldc (z := -9999002) (q := 504) B48 dL_refuses_502 rfl w279 (by decide) ?_
  refine g_icmp_ne (t := 708) (q := 507) B48 dL_refuses_504 (by decide) rfl ⟨by omega, by omega⟩ ⟨by omega, by omega⟩ (fun cq504 => absurd cq504 (by decide)) (fun cq504 => ?_)
  refine g_aload_n (q := 508) B48 dL_refuses_507 rfl 5 rfl ?_
  refine g_bipush (q := 510) B48 dL_refuses_508 rfl (by decide) ?_
  refine g_iload (q := 512) B48 dL_refuses_510 rfl 0 rfl ?_
  refine g_iconst (q := 513) B48 dL_refuses_512 rfl ?_
  refine g_iconst (q := 514) B48 dL_refuses_513 rfl ?_
  refine g_callN (q := 517) (m1 := 1) (c2 := 25) (As := [.ref (yA Y 72), .int (iI 16), .int (iI ((-1) - (x % 9))), .int (iI 0), .int (iI 0)]) (st := []) B48 dL_refuses_514 rfl (k_fewest (Y := Y) (S := S47) hst A47 W ((-1) - (x % 9)) ⟨by omega, by omega⟩ 0 0 (x := -9999002) (hx := tv_1 (if_neg (by omega)))) eL_call w179 (by decide) rfl rfl (Nat.le_of_ble_eq_true rfl) (by omega) (Nat.le_trans (show 25 ≤ 36 by omega) E.2.1) (Nat.le_trans (show 6 * (25) ≤ 6 * 36 by omega) E.2.2) (fun v S49 hS49 => ?_)
  obtain ⟨rfl, A49, K49⟩ := hS49
  have T49 := kp_t T47 K49
  have B50 := gB_K (c := 25) B48 (Nat.le_trans (show 25 ≤ 36 by omega) E.2.1) (Nat.le_trans (show 6 * (25) ≤ 6 * 36 by omega) E.2.2)
  show gW Y (xK X (25)) S49 517 [(6, .int (iI ((-1) - (x % 9)))), (5, .int (iI ((-1) - (x % 99)))), (4, .int (iI ((-1) - (x % 99)))), (3, .int (iI (runsF (pG P)))), (2, .int (iI (pG P 0))), (0, .ref (yA Y 72)), (1, .int (iI x))] [.int (iI (-9999002))]
  refine g_ldc (z := -9999002) (q := 519) B50 dL_refuses_517 rfl w279 (by decide) ?_
  refine g_icmp_ne (t := 708) (q := 522) B50 dL_refuses_519 (by decide) rfl ⟨by omega, by omega⟩ ⟨by omega, by omega⟩ (fun cq519 => absurd cq519 (by decide)) (fun cq519 => ?_)
  refine g_aload_n (q := 523) B50 dL_refuses_522 rfl 5 rfl ?_
  refine g_bipush (q := 525) B50 dL_refuses_523 rfl (by decide) ?_
  refine g_iconst (q := 526) B50 dL_refuses_525 rfl ?_
  refine g_iload_n (q := 527) B50 dL_refuses_526 rfl 6 rfl ?_
  refine g_bipush (q := 529) B50 dL_refuses_527 rfl (by decide) ?_
  refine g_irem (q := 530) B50 dL_refuses_529 rfl (by omega) (by omega) (by omega) (by omega) ?_
  refine g_isub (q := 531) B50 dL_refuses_530 rfl ?_
  refine g_iconst (q := 532) B50 dL_refuses_531 rfl ?_
  refine g_iconst (q := 533) B50 dL_refuses_532 rfl ?_
  refine g_callN (q := 536) (m1 := 1) (c2 := 26) (As := [.ref (yA Y 72), .int (iI 17), .int (iI ((-1) - (x % 9))), .int (iI 0), .int (iI 0)]) (st := []) B50 dL_refuses_533 rfl (k_divided (Y := Y) (S := S49) hst A49 W ((-1) - (x % 9)) ⟨by omega, by omega⟩ 0 0 (x := -9999002) (hx := tv_1 (if_neg (by omega)))) eL_call w179 (by decide) rfl rfl (Nat.le_of_ble_eq_true rfl) (by omega) (Nat.le_trans (show 26 ≤ 36 by omega) E.2.1) (Nat.le_trans (show 6 * (26) ≤ 6 * 36 by omega) E.2.2) (fun v S51 hS51 => ?_)
  obtain ⟨rfl, A51, K51⟩ := hS51
  have T51 := kp_t T49 K51
  have B52 := gB_K (c := 26) B50 (Nat.le_trans (show 26 ≤ 36 by omega) E.2.1) (Nat.le_trans (show 6 * (26) ≤ 6 * 36 by omega) E.2.2)
  show gW Y (xK X (26)) S51 536 [(6, .int (iI ((-1) - (x % 9)))), (5, .int (iI ((-1) - (x % 99)))), (4, .int (iI ((-1) - (x % 99)))), (3, .int (iI (runsF (pG P)))), (2, .int (iI (pG P 0))), (0, .ref (yA Y 72)), (1, .int (iI x))] [.int (iI (-9999002))]
  refine g_ldc (z := -9999002) (q := 538) B52 dL_refuses_536 rfl w279 (by decide) ?_
  refine g_icmp_ne (t := 708) (q := 541) B52 dL_refuses_538 (by decide) rfl ⟨by omega, by omega⟩ ⟨by omega, by omega⟩ (fun cq538 => absurd cq538 (by decide)) (fun cq538 => ?_)
  refine g_aload_n (q := 542) B52 dL_refuses_541 rfl 5 rfl ?_
  refine g_bipush (q := 544) B52 dL_refuses_542 rfl (by decide) ?_
  refine g_iload_n (q := 545) B52 dL_refuses_544 rfl 6 rfl ?_
  refine g_iconst (q := 546) B52 dL_refuses_545 rfl ?_
  refine g_irem (q := 547) B52 dL_refuses_546 rfl (by omega) (by omega) (by omega) (by omega) ?_
  refine g_if_ne (t := 554) (q := 550) B52 dL_refuses_547 (by decide) rfl ⟨by omega, by omega⟩ (fun cq547 => absurd cq547 (by omega)) (fun cq547 => ?_)
  refine g_iconst (q := 551) B52 dL_refuses_550 rfl ?_
  refine g_goto (q := 560) B52 dL_refuses_551 (by decide) ?_
  refine g_iconst (q := 561) B52 dL_refuses_560 rfl ?_
  refine g_iconst (q := 562) B52 dL_refuses_561 rfl ?_
  refine g_callN (q := 565) (m1 := 1) (c2 := 27) (As := [.ref (yA Y 72), .int (iI 18), .int (iI (-1)), .int (iI 0), .int (iI 0)]) (st := []) B52 dL_refuses_562 rfl (k_leastGap (Y := Y) (S := S51) hst A51 W (-1) ⟨by omega, by omega⟩ 0 0 (x := -9999002) (hx := tv_1 (if_neg (by omega)))) eL_call w179 (by decide) rfl rfl (Nat.le_of_ble_eq_true rfl) (by omega) (Nat.le_trans (show 27 ≤ 36 by omega) E.2.1) (Nat.le_trans (show 6 * (27) ≤ 6 * 36 by omega) E.2.2) (fun v S53 hS53 => ?_)
  obtain ⟨rfl, A53, K53⟩ := hS53
  have T53 := kp_t T51 K53
  have B54 := gB_K (c := 27) B52 (Nat.le_trans (show 27 ≤ 36 by omega) E.2.1) (Nat.le_trans (show 6 * (27) ≤ 6 * 36 by omega) E.2.2)
  show gW Y (xK X (27)) S53 565 [(6, .int (iI ((-1) - (x % 9)))), (5, .int (iI ((-1) - (x % 99)))), (4, .int (iI ((-1) - (x % 99)))), (3, .int (iI (runsF (pG P)))), (2, .int (iI (pG P 0))), (0, .ref (yA Y 72)), (1, .int (iI x))] [.int (iI (-9999002))]
  refine g_ldc (z := -9999002) (q := 567) B54 dL_refuses_565 rfl w279 (by decide) ?_
  refine g_icmp_ne (t := 708) (q := 570) B54 dL_refuses_567 (by decide) rfl ⟨by omega, by omega⟩ ⟨by omega, by omega⟩ (fun cq567 => absurd cq567 (by decide)) (fun cq567 => ?_)
  refine g_aload_n (q := 571) B54 dL_refuses_570 rfl 5 rfl ?_
  refine g_bipush (q := 573) B54 dL_refuses_571 rfl (by decide) ?_
  refine g_iload (q := 575) B54 dL_refuses_573 rfl 1 rfl ?_
  refine g_bipush (q := 577) B54 dL_refuses_575 rfl (by decide) ?_
  refine g_iconst (q := 578) B54 dL_refuses_577 rfl ?_
  refine g_callN (q := 581) (m1 := 1) (c2 := 28) (As := [.ref (yA Y 72), .int (iI 19), .int (iI ((-1) - (x % 99))), .int (iI 9), .int (iI 0)]) (st := []) B54 dL_refuses_578 rfl (k_ifGiven (Y := Y) (S := S53) hst A53 W ((-1) - (x % 99)) ⟨by omega, by omega⟩ 9 ⟨by omega, by omega⟩ 0 (x := -9999001) (hx := tv_1 (if_neg (by omega)))) eL_call w179 (by decide) rfl rfl (Nat.le_of_ble_eq_true rfl) (by omega) (Nat.le_trans (show 28 ≤ 36 by omega) E.2.1) (Nat.le_trans (show 6 * (28) ≤ 6 * 36 by omega) E.2.2) (fun v S55 hS55 => ?_)
  obtain ⟨rfl, A55, K55⟩ := hS55
  have T55 := kp_t T53 K55
  have B56 := gB_K (c := 28) B54 (Nat.le_trans (show 28 ≤ 36 by omega) E.2.1) (Nat.le_trans (show 6 * (28) ≤ 6 * 36 by omega) E.2.2)
  show gW Y (xK X (28)) S55 581 [(6, .int (iI ((-1) - (x % 9)))), (5, .int (iI ((-1) - (x % 99)))), (4, .int (iI ((-1) - (x % 99)))), (3, .int (iI (runsF (pG P)))), (2, .int (iI (pG P 0))), (0, .ref (yA Y 72)), (1, .int (iI x))] [.int (iI (-9999001))]
  refine g_ldc (z := -9999001) (q := 583) B56 dL_refuses_581 rfl w573 (by decide) ?_
  refine g_icmp_ne (t := 708) (q := 586) B56 dL_refuses_583 (by decide) rfl ⟨by omega, by omega⟩ ⟨by omega, by omega⟩ (fun cq583 => absurd cq583 (by decide)) (fun cq583 => ?_)
  refine g_aload_n (q := 587) B56 dL_refuses_586 rfl 5 rfl ?_
  refine g_bipush (q := 589) B56 dL_refuses_587 rfl (by decide) ?_
  refine g_iconst (q := 590) B56 dL_refuses_589 rfl ?_
  refine g_iload_n (q := 591) B56 dL_refuses_590 rfl 6 rfl ?_
  refine g_iconst (q := 592) B56 dL_refuses_591 rfl ?_
  refine g_irem (q := 593) B56 dL_refuses_592 rfl (by omega) (by omega) (by omega) (by omega) ?_
  refine g_if_ne (t := 606) (q := 596) B56 dL_refuses_593 (by decide) rfl ⟨by omega, by omega⟩ (fun cq593 => absurd cq593 (by omega)) (fun cq593 => ?_)
  refine g_bipush (q := 598) B56 dL_refuses_596 rfl (by decide) ?_
  refine g_iload_n (q := 599) B56 dL_refuses_598 rfl 6 rfl ?_
  refine g_bipush (q := 601) B56 dL_refuses_599 rfl (by decide) ?_
  refine g_irem (q := 602) B56 dL_refuses_601 rfl (by omega) (by omega) (by omega) (by omega) ?_
  refine g_isub (q := 603) B56 dL_refuses_602 rfl ?_
  refine g_goto (q := 612) B56 dL_refuses_603 (by decide) ?_
  refine g_iconst (q := 613) B56 dL_refuses_612 rfl ?_
  refine g_callN (q := 616) (m1 := 1) (c2 := 29) (As := [.ref (yA Y 72), .int (iI 19), .int (iI 0), .int (iI ((-2) - (x % 9))), .int (iI 0)]) (st := []) B56 dL_refuses_613 rfl (k_ifGiven (Y := Y) (S := S55) hst A55 W 0 ⟨by omega, by omega⟩ ((-2) - (x % 9)) ⟨by omega, by omega⟩ 0 (x := -9999002) (hx := tv_2 ((if_pos (by omega)).trans (if_neg (by omega))))) eL_call w179 (by decide) rfl rfl (Nat.le_of_ble_eq_true rfl) (by omega) (Nat.le_trans (show 29 ≤ 36 by omega) E.2.1) (Nat.le_trans (show 6 * (29) ≤ 6 * 36 by omega) E.2.2) (fun v S57 hS57 => ?_)
  obtain ⟨rfl, A57, K57⟩ := hS57
  have T57 := kp_t T55 K57
  have B58 := gB_K (c := 29) B56 (Nat.le_trans (show 29 ≤ 36 by omega) E.2.1) (Nat.le_trans (show 6 * (29) ≤ 6 * 36 by omega) E.2.2)
  show gW Y (xK X (29)) S57 616 [(6, .int (iI ((-1) - (x % 9)))), (5, .int (iI ((-1) - (x % 99)))), (4, .int (iI ((-1) - (x % 99)))), (3, .int (iI (runsF (pG P)))), (2, .int (iI (pG P 0))), (0, .ref (yA Y 72)), (1, .int (iI x))] [.int (iI (-9999002))]
  refine g_ldc (z := -9999002) (q := 618) B58 dL_refuses_616 rfl w279 (by decide) ?_
  refine g_icmp_ne (t := 708) (q := 621) B58 dL_refuses_618 (by decide) rfl ⟨by omega, by omega⟩ ⟨by omega, by omega⟩ (fun cq618 => absurd cq618 (by decide)) (fun cq618 => ?_)
  refine g_aload_n (q := 622) B58 dL_refuses_621 rfl 5 rfl ?_
  refine g_bipush (q := 624) B58 dL_refuses_622 rfl (by decide) ?_
  refine g_iconst (q := 625) B58 dL_refuses_624 rfl ?_
  refine g_iload_n (q := 626) B58 dL_refuses_625 rfl 6 rfl ?_
  refine g_bipush (q := 628) B58 dL_refuses_626 rfl (by decide) ?_
  refine g_irem (q := 629) B58 dL_refuses_628 rfl (by omega) (by omega) (by omega) (by omega) ?_
  refine g_iadd (q := 630) B58 dL_refuses_629 rfl ?_
  refine g_iconst (q := 631) B58 dL_refuses_630 rfl ?_
  refine g_iconst (q := 632) B58 dL_refuses_631 rfl ?_
  refine g_callN (q := 635) (m1 := 1) (c2 := 30) (As := [.ref (yA Y 72), .int (iI 20), .int (iI (2 + (x % 50))), .int (iI 0), .int (iI 0)]) (st := []) B58 dL_refuses_632 rfl (k_save (Y := Y) (S := S57) hst A57 W (2 + (x % 50)) ⟨by omega, by omega⟩ 0 0 (x := -9999001) (hx := tv_1 (if_neg (by omega))) (P' := P) (hP := if_neg (ne1 (if_neg (by omega))))) eL_call w179 (by decide) rfl rfl (Nat.le_of_ble_eq_true rfl) (by omega) (Nat.le_trans (show 30 ≤ 36 by omega) E.2.1) (Nat.le_trans (show 6 * (30) ≤ 6 * 36 by omega) E.2.2) (fun v S59 hS59 => ?_)
  obtain ⟨rfl, A59, K59⟩ := hS59
  have T59 := kp_t T57 K59
  have B60 := gB_K (c := 30) B58 (Nat.le_trans (show 30 ≤ 36 by omega) E.2.1) (Nat.le_trans (show 6 * (30) ≤ 6 * 36 by omega) E.2.2)
  show gW Y (xK X (30)) S59 635 [(6, .int (iI ((-1) - (x % 9)))), (5, .int (iI ((-1) - (x % 99)))), (4, .int (iI ((-1) - (x % 99)))), (3, .int (iI (runsF (pG P)))), (2, .int (iI (pG P 0))), (0, .ref (yA Y 72)), (1, .int (iI x))] [.int (iI (-9999001))]
  refine g_ldc (z := -9999001) (q := 637) B60 dL_refuses_635 rfl w573 (by decide) ?_
  refine g_icmp_ne (t := 708) (q := 640) B60 dL_refuses_637 (by decide) rfl ⟨by omega, by omega⟩ ⟨by omega, by omega⟩ (fun cq637 => absurd cq637 (by decide)) (fun cq637 => ?_)
  refine g_aload_n (q := 641) B60 dL_refuses_640 rfl 5 rfl ?_
  refine g_bipush (q := 643) B60 dL_refuses_641 rfl (by decide) ?_
  refine g_iconst (q := 644) B60 dL_refuses_643 rfl ?_
  refine g_iload_n (q := 645) B60 dL_refuses_644 rfl 6 rfl ?_
  refine g_bipush (q := 647) B60 dL_refuses_645 rfl (by decide) ?_
  refine g_irem (q := 648) B60 dL_refuses_647 rfl (by omega) (by omega) (by omega) (by omega) ?_
  refine g_isub (q := 649) B60 dL_refuses_648 rfl ?_
  refine g_iconst (q := 650) B60 dL_refuses_649 rfl ?_
  refine g_iconst (q := 651) B60 dL_refuses_650 rfl ?_
  refine g_callN (q := 654) (m1 := 1) (c2 := 31) (As := [.ref (yA Y 72), .int (iI 21), .int (iI ((-1) - (x % 9))), .int (iI 0), .int (iI 0)]) (st := []) B60 dL_refuses_651 rfl (k_restore (Y := Y) (S := S59) hst A59 W ((-1) - (x % 9)) ⟨by omega, by omega⟩ 0 0 (x := -9999001) (hx := tv_1 (if_neg (by omega))) (P' := P) (hP := if_neg (ne1 (if_neg (by omega))))) eL_call w179 (by decide) rfl rfl (Nat.le_of_ble_eq_true rfl) (by omega) (Nat.le_trans (show 31 ≤ 36 by omega) E.2.1) (Nat.le_trans (show 6 * (31) ≤ 6 * 36 by omega) E.2.2) (fun v S61 hS61 => ?_)
  obtain ⟨rfl, A61, K61⟩ := hS61
  have T61 := kp_t T59 K61
  have B62 := gB_K (c := 31) B60 (Nat.le_trans (show 31 ≤ 36 by omega) E.2.1) (Nat.le_trans (show 6 * (31) ≤ 6 * 36 by omega) E.2.2)
  show gW Y (xK X (31)) S61 654 [(6, .int (iI ((-1) - (x % 9)))), (5, .int (iI ((-1) - (x % 99)))), (4, .int (iI ((-1) - (x % 99)))), (3, .int (iI (runsF (pG P)))), (2, .int (iI (pG P 0))), (0, .ref (yA Y 72)), (1, .int (iI x))] [.int (iI (-9999001))]
  refine g_ldc (z := -9999001) (q := 656) B62 dL_refuses_654 rfl w573 (by decide) ?_
  refine g_icmp_ne (t := 708) (q := 659) B62 dL_refuses_656 (by decide) rfl ⟨by omega, by omega⟩ ⟨by omega, by omega⟩ (fun cq656 => absurd cq656 (by decide)) (fun cq656 => ?_)
  refine g_aload_n (q := 660) B62 dL_refuses_659 rfl 5 rfl ?_
  refine g_iconst (q := 661) B62 dL_refuses_660 rfl ?_
  refine g_lconst (z := 0) (q := 662) B62 dL_refuses_661 rfl rfl ?_
  refine g_callW (q := 665) (c2 := 32) (As := [.ref (yA Y 72), .int (iI 0), .long (lI 0)]) (st := []) B62 dL_refuses_662 rfl (k_runScript (Y := Y) (S := S61) hst A61 W 0 0 ⟨by omega, by omega⟩ ⟨by omega, by omega⟩  (x := -9999002) (hx := tv_1 (if_neg (by omega)))) eL_doScript w852 (by decide) rfl rfl (Nat.le_of_ble_eq_true rfl) (by omega) (Nat.le_trans (show 32 ≤ 36 by omega) E.2.1) (Nat.le_trans (show 6 * (32) ≤ 6 * 36 by omega) E.2.2) (fun v S63 hS63 => ?_)
  obtain ⟨rfl, A63, K63⟩ := hS63
  have T63 := kp_t T61 K63
  have B64 := gB_K (c := 32) B62 (Nat.le_trans (show 32 ≤ 36 by omega) E.2.1) (Nat.le_trans (show 6 * (32) ≤ 6 * 36 by omega) E.2.2)
  show gW Y (xK X (32)) S63 665 [(6, .int (iI ((-1) - (x % 9)))), (5, .int (iI ((-1) - (x % 99)))), (4, .int (iI ((-1) - (x % 99)))), (3, .int (iI (runsF (pG P)))), (2, .int (iI (pG P 0))), (0, .ref (yA Y 72)), (1, .int (iI x))] [.int (iI (-9999002))]
  refine g_ldc (z := -9999002) (q := 667) B64 dL_refuses_665 rfl w279 (by decide) ?_
  refine g_icmp_ne (t := 708) (q := 670) B64 dL_refuses_667 (by decide) rfl ⟨by omega, by omega⟩ ⟨by omega, by omega⟩ (fun cq667 => absurd cq667 (by decide)) (fun cq667 => ?_)
  refine g_aload_n (q := 671) B64 dL_refuses_670 rfl 5 rfl ?_
  refine g_iconst (q := 672) B64 dL_refuses_671 rfl ?_
  refine g_ldc2 (z := 100000) (q := 675) B64 dL_refuses_672 rfl w886 (by decide) ?_
  refine g_iload_n (q := 676) B64 dL_refuses_675 rfl 6 rfl ?_
  refine g_i2l (q := 677) B64 dL_refuses_676 rfl ⟨by omega, by omega⟩ ?_
  refine g_ladd (q := 678) B64 dL_refuses_677 rfl ?_
  refine g_callW (q := 681) (c2 := 33) (As := [.ref (yA Y 72), .int (iI 1), .long (lI (100000 + x))]) (st := []) B64 dL_refuses_678 rfl (k_runScript (Y := Y) (S := S63) hst A63 W 1 (100000 + x) ⟨by omega, by omega⟩ ⟨by omega, by omega⟩  (x := -9999002) (hx := tv_1 (if_neg (fun z => by have h5 : pw5 (Int.toNat 1) = 100000 := rfl; omega)))) eL_doScript w852 (by decide) rfl rfl (Nat.le_of_ble_eq_true rfl) (by omega) (Nat.le_trans (show 33 ≤ 36 by omega) E.2.1) (Nat.le_trans (show 6 * (33) ≤ 6 * 36 by omega) E.2.2) (fun v S65 hS65 => ?_)
  obtain ⟨rfl, A65, K65⟩ := hS65
  have T65 := kp_t T63 K65
  have B66 := gB_K (c := 33) B64 (Nat.le_trans (show 33 ≤ 36 by omega) E.2.1) (Nat.le_trans (show 6 * (33) ≤ 6 * 36 by omega) E.2.2)
  show gW Y (xK X (33)) S65 681 [(6, .int (iI ((-1) - (x % 9)))), (5, .int (iI ((-1) - (x % 99)))), (4, .int (iI ((-1) - (x % 99)))), (3, .int (iI (runsF (pG P)))), (2, .int (iI (pG P 0))), (0, .ref (yA Y 72)), (1, .int (iI x))] [.int (iI (-9999002))]
  refine g_ldc (z := -9999002) (q := 683) B66 dL_refuses_681 rfl w279 (by decide) ?_
  refine g_icmp_ne (t := 708) (q := 686) B66 dL_refuses_683 (by decide) rfl ⟨by omega, by omega⟩ ⟨by omega, by omega⟩ (fun cq683 => absurd cq683 (by decide)) (fun cq683 => ?_)
  refine g_aload_n (q := 687) B66 dL_refuses_686 rfl 5 rfl ?_
  refine g_iload_n (q := 688) B66 dL_refuses_687 rfl 6 rfl ?_
  refine g_i2l (q := 689) B66 dL_refuses_688 rfl ⟨by omega, by omega⟩ ?_
  refine g_bipush (q := 691) B66 dL_refuses_689 rfl (by decide) ?_
  refine g_iload_n (q := 692) B66 dL_refuses_691 rfl 6 rfl ?_
  refine g_bipush (q := 694) B66 dL_refuses_692 rfl (by decide) ?_
  refine g_irem (q := 695) B66 dL_refuses_694 rfl (by omega) (by omega) (by omega) (by omega) ?_
  refine g_iadd (q := 696) B66 dL_refuses_695 rfl ?_
  refine g_callW (q := 699) (c2 := 34) (As := [.ref (yA Y 72), .long (lI x), .int (iI (61 + (x % 9)))]) (st := []) B66 dL_refuses_696 rfl (k_simulate (Y := Y) (S := S65) hst A65 W x (61 + (x % 9)) ⟨by omega, by omega⟩ ⟨by omega, by omega⟩  (x := -9999002) (hx := tv_1 (if_neg (by omega)))) eL_doSimulate w887 (by decide) rfl rfl (Nat.le_of_ble_eq_true rfl) (by omega) (Nat.le_trans (show 34 ≤ 36 by omega) E.2.1) (Nat.le_trans (show 6 * (34) ≤ 6 * 36 by omega) E.2.2) (fun v S67 hS67 => ?_)
  obtain ⟨rfl, A67, K67⟩ := hS67
  have T67 := kp_t T65 K67
  have B68 := gB_K (c := 34) B66 (Nat.le_trans (show 34 ≤ 36 by omega) E.2.1) (Nat.le_trans (show 6 * (34) ≤ 6 * 36 by omega) E.2.2)
  show gW Y (xK X (34)) S67 699 [(6, .int (iI ((-1) - (x % 9)))), (5, .int (iI ((-1) - (x % 99)))), (4, .int (iI ((-1) - (x % 99)))), (3, .int (iI (runsF (pG P)))), (2, .int (iI (pG P 0))), (0, .ref (yA Y 72)), (1, .int (iI x))] [.int (iI (-9999002))]
  refine g_ldc (z := -9999002) (q := 701) B68 dL_refuses_699 rfl w279 (by decide) ?_
  refine g_icmp_ne (t := 708) (q := 704) B68 dL_refuses_701 (by decide) rfl ⟨by omega, by omega⟩ ⟨by omega, by omega⟩ (fun cq701 => absurd cq701 (by decide)) (fun cq701 => ?_)
  refine g_iconst (q := 705) B68 dL_refuses_704 rfl ?_
  refine g_goto (q := 709) B68 dL_refuses_705 (by decide) ?_
  refine g_istore (q := 711) B68 dL_refuses_709 rfl (by decide) (L' := [(7, .int (iI 1)), (6, .int (iI ((-1) - (x % 9)))), (5, .int (iI ((-1) - (x % 99)))), (4, .int (iI ((-1) - (x % 99)))), (3, .int (iI (runsF (pG P)))), (2, .int (iI (pG P 0))), (0, .ref (yA Y 72)), (1, .int (iI x))]) rfl ?_
  refine g_iload (q := 713) B68 dL_refuses_711 rfl 0 rfl ?_
  refine g_if_eq (t := 740) (q := 716) B68 dL_refuses_713 (by decide) rfl ⟨by omega, by omega⟩ (fun cq713 => absurd cq713 (by decide)) (fun cq713 => ?_)
  refine g_iload_n (q := 717) B68 dL_refuses_716 rfl 5 rfl ?_
  refine g_bipush (q := 719) B68 dL_refuses_717 rfl (by decide) ?_
  refine g_icmp_lt (t := 736) (q := 722) B68 dL_refuses_719 (by decide) rfl ⟨by omega, by omega⟩ ⟨by omega, by omega⟩ (fun cq719 => ?_) (fun cq719 => ?_)
  · refine g_iconst (q := 737) B68 dL_refuses_736 rfl ?_
    refine g_goto (q := 741) B68 dL_refuses_737 (by decide) ?_
    exact gn_zret B68 E (by omega) dL_refuses_741 rfl (by decide) ⟨rfl, A67, T67⟩
  · refine g_aload_n (q := 723) B68 dL_refuses_722 rfl 6 rfl ?_
    refine g_bipush (q := 725) B68 dL_refuses_723 rfl (by decide) ?_
    refine g_iconst (q := 726) B68 dL_refuses_725 rfl ?_
    refine g_iconst (q := 727) B68 dL_refuses_726 rfl ?_
    refine g_iconst (q := 728) B68 dL_refuses_727 rfl ?_
    refine g_callN (q := 731) (m1 := 1) (c2 := 35) (As := [.ref (yA Y 72), .int (iI 7), .int (iI 0), .int (iI 1), .int (iI 0)]) (st := []) B68 dL_refuses_728 rfl (k_jewel (Y := Y) (S := S67) hst A67 W 0 ⟨by omega, by omega⟩ 1 ⟨by omega, by omega⟩ 0 (x := -9999003) (hx := tv_3 ((if_pos (by decide)).trans ((if_pos (by decide)).trans (if_neg (by omega))))) (P' := P) (hP := if_neg (ne3 ((if_pos (by decide)).trans ((if_pos (by decide)).trans (if_neg (by omega))))))) eL_call w179 (by decide) rfl rfl (Nat.le_of_ble_eq_true rfl) (by omega) (Nat.le_trans (show 35 ≤ 36 by omega) E.2.1) (Nat.le_trans (show 6 * (35) ≤ 6 * 36 by omega) E.2.2) (fun v S69 hS69 => ?_)
    obtain ⟨rfl, A69, K69⟩ := hS69
    have T69 := kp_t T67 K69
    have B70 := gB_K (c := 35) B68 (Nat.le_trans (show 35 ≤ 36 by omega) E.2.1) (Nat.le_trans (show 6 * (35) ≤ 6 * 36 by omega) E.2.2)
    show gW Y (xK X (35)) S69 731 [(7, .int (iI 1)), (6, .int (iI ((-1) - (x % 9)))), (5, .int (iI ((-1) - (x % 99)))), (4, .int (iI ((-1) - (x % 99)))), (3, .int (iI (runsF (pG P)))), (2, .int (iI (pG P 0))), (0, .ref (yA Y 72)), (1, .int (iI x))] [.int (iI (-9999003))]
    refine g_ldc (z := -9999003) (q := 733) B70 dL_refuses_731 rfl w280 (by decide) ?_
    refine g_icmp_ne (t := 740) (q := 736) B70 dL_refuses_733 (by decide) rfl ⟨by omega, by omega⟩ ⟨by omega, by omega⟩ (fun cq733 => absurd cq733 (by decide)) (fun cq733 => ?_)
    refine g_iconst (q := 737) B70 dL_refuses_736 rfl ?_
    refine g_goto (q := 741) B70 dL_refuses_737 (by decide) ?_
    exact gn_zret B70 E (by omega) dL_refuses_741 rfl (by decide) ⟨rfl, A69, T69⟩
set_option maxHeartbeats 16000000 in
theorem c_refusesO {Y : gY} {l : Launch} {S : SS} {P : PT} (hst : l.stackTraces = false) (A0 : PK P S) (W : WF0 P) (C : CH 4 P) (x : Int) (hx0 : 0 ≤ x ∧ x < 100000) (hx2 : x % 2 = 1) : gN Y l mL_refuses 36 S [.ref (yA Y 72), .int (iI x)] (qP 1 P S) := by
  refine gN_of (by decide) (Nat.le_of_ble_eq_true rfl) ?_
  intro X hXl B E
  subst hXl
  have T0 := kp_r S
  have hb := pic_in W C
  show gW Y (xK X 0) S 0 [(0, .ref (yA Y 72)), (1, .int (iI x))] []
  refine g_aload_n (q := 1) B dL_refuses_0 rfl 0 rfl ?_
  refine g_iconst (q := 2) B dL_refuses_1 rfl ?_
  refine g_iconst (q := 3) B dL_refuses_2 rfl ?_
  refine g_iconst (q := 4) B dL_refuses_3 rfl ?_
  refine g_iconst (q := 5) B dL_refuses_4 rfl ?_
  refine g_callN (q := 8) (m1 := 1) (c2 := 1) (As := [.ref (yA Y 72), .int (iI 2), .int (iI 0), .int (iI 0), .int (iI 0)]) (st := []) B dL_refuses_5 rfl (k_about (Y := Y) (S := S) hst A0 W 0 ⟨by omega, by omega⟩ 0 0 (x := pG P 0) (hx := rfl)) eL_call w179 (by decide) rfl rfl (Nat.le_of_ble_eq_true rfl) (by omega) (Nat.le_trans (show 1 ≤ 36 by omega) E.2.1) (Nat.le_trans (show 6 * (1) ≤ 6 * 36 by omega) E.2.2) (fun v S1 hS1 => ?_)
  obtain ⟨rfl, A1, K1⟩ := hS1
  have T1 := kp_t T0 K1
  have B2 := gB_K (c := 1) B (Nat.le_trans (show 1 ≤ 36 by omega) E.2.1) (Nat.le_trans (show 6 * (1) ≤ 6 * 36 by omega) E.2.2)
  show gW Y (xK X (1)) S1 8 [(0, .ref (yA Y 72)), (1, .int (iI x))] [.int (iI (pG P 0))]
  refine g_istore_n (q := 9) B2 dL_refuses_8 rfl (by decide) (L' := [(2, .int (iI (pG P 0))), (0, .ref (yA Y 72)), (1, .int (iI x))]) rfl ?_
  refine g_aload_n (q := 10) B2 dL_refuses_9 rfl 1 rfl ?_
  refine g_iconst (q := 11) B2 dL_refuses_10 rfl ?_
  refine g_iconst (q := 12) B2 dL_refuses_11 rfl ?_
  refine g_iconst (q := 13) B2 dL_refuses_12 rfl ?_
  refine g_iconst (q := 14) B2 dL_refuses_13 rfl ?_
  refine g_callN (q := 17) (m1 := 1) (c2 := 2) (As := [.ref (yA Y 72), .int (iI 2), .int (iI 3), .int (iI 0), .int (iI 0)]) (st := []) B2 dL_refuses_14 rfl (k_about (Y := Y) (S := S1) hst A1 W 3 ⟨by omega, by omega⟩ 0 0 (x := runsF (pG P)) (hx := rfl)) eL_call w179 (by decide) rfl rfl (Nat.le_of_ble_eq_true rfl) (by omega) (Nat.le_trans (show 2 ≤ 36 by omega) E.2.1) (Nat.le_trans (show 6 * (2) ≤ 6 * 36 by omega) E.2.2) (fun v S3 hS3 => ?_)
  obtain ⟨rfl, A3, K3⟩ := hS3
  have T3 := kp_t T1 K3
  have B4 := gB_K (c := 2) B2 (Nat.le_trans (show 2 ≤ 36 by omega) E.2.1) (Nat.le_trans (show 6 * (2) ≤ 6 * 36 by omega) E.2.2)
  show gW Y (xK X (2)) S3 17 [(2, .int (iI (pG P 0))), (0, .ref (yA Y 72)), (1, .int (iI x))] [.int (iI (runsF (pG P)))]
  refine g_istore_n (q := 18) B4 dL_refuses_17 rfl (by decide) (L' := [(3, .int (iI (runsF (pG P)))), (2, .int (iI (pG P 0))), (0, .ref (yA Y 72)), (1, .int (iI x))]) rfl ?_
  refine g_iload_n (q := 19) B4 dL_refuses_18 rfl 3 rfl ?_
  refine g_iconst (q := 20) B4 dL_refuses_19 rfl ?_
  refine g_irem (q := 21) B4 dL_refuses_20 rfl (by omega) (by omega) (by omega) (by omega) ?_
  refine g_if_ne (t := 33) (q := 24) B4 dL_refuses_21 (by decide) rfl ⟨by omega, by omega⟩ (fun cq21 => ?_) (fun cq21 => absurd cq21 (by omega))
  refine g_iload_n (q := 34) B4 dL_refuses_33 rfl 1 rfl ?_
  refine g_iload_n (q := 35) B4 dL_refuses_34 rfl 3 rfl ?_
  refine g_bipush (q := 37) B4 dL_refuses_35 rfl (by decide) ?_
  refine g_irem (q := 38) B4 dL_refuses_37 rfl (by omega) (by omega) (by omega) (by omega) ?_
  refine g_iadd (q := 39) B4 dL_refuses_38 rfl ?_
  refine g_istore (q := 41) B4 dL_refuses_39 rfl (by decide) (L' := [(4, .int (iI ((pG P 0) + (x % 99)))), (3, .int (iI (runsF (pG P)))), (2, .int (iI (pG P 0))), (0, .ref (yA Y 72)), (1, .int (iI x))]) rfl ?_
  refine g_iload_n (q := 42) B4 dL_refuses_41 rfl 4 rfl ?_
  refine g_iconst (q := 43) B4 dL_refuses_42 rfl ?_
  refine g_irem (q := 44) B4 dL_refuses_43 rfl (by omega) (by omega) (by omega) (by omega) ?_
  refine g_if_ne (t := 56) (q := 47) B4 dL_refuses_44 (by decide) rfl ⟨by omega, by omega⟩ (fun cq44 => ?_) (fun cq44 => absurd cq44 (by omega))
  refine g_iload_n (q := 57) B4 dL_refuses_56 rfl 1 rfl ?_
  refine g_iload_n (q := 58) B4 dL_refuses_57 rfl 4 rfl ?_
  refine g_bipush (q := 60) B4 dL_refuses_58 rfl (by decide) ?_
  refine g_irem (q := 61) B4 dL_refuses_60 rfl (by omega) (by omega) (by omega) (by omega) ?_
  refine g_iadd (q := 62) B4 dL_refuses_61 rfl ?_
  refine g_istore (q := 64) B4 dL_refuses_62 rfl (by decide) (L' := [(5, .int (iI ((runsF (pG P)) + (x % 99)))), (4, .int (iI ((pG P 0) + (x % 99)))), (3, .int (iI (runsF (pG P)))), (2, .int (iI (pG P 0))), (0, .ref (yA Y 72)), (1, .int (iI x))]) rfl ?_
  refine g_iload_n (q := 65) B4 dL_refuses_64 rfl 5 rfl ?_
  refine g_iconst (q := 66) B4 dL_refuses_65 rfl ?_
  refine g_irem (q := 67) B4 dL_refuses_66 rfl (by omega) (by omega) (by omega) (by omega) ?_
  refine g_if_ne (t := 79) (q := 70) B4 dL_refuses_67 (by decide) rfl ⟨by omega, by omega⟩ (fun cq67 => ?_) (fun cq67 => absurd cq67 (by omega))
  refine g_iconst (q := 80) B4 dL_refuses_79 rfl ?_
  refine g_iload_n (q := 81) B4 dL_refuses_80 rfl 5 rfl ?_
  refine g_bipush (q := 83) B4 dL_refuses_81 rfl (by decide) ?_
  refine g_irem (q := 84) B4 dL_refuses_83 rfl (by omega) (by omega) (by omega) (by omega) ?_
  refine g_iadd (q := 85) B4 dL_refuses_84 rfl ?_
  refine g_istore (q := 87) B4 dL_refuses_85 rfl (by decide) (L' := [(6, .int (iI (2 + (x % 9)))), (5, .int (iI ((runsF (pG P)) + (x % 99)))), (4, .int (iI ((pG P 0) + (x % 99)))), (3, .int (iI (runsF (pG P)))), (2, .int (iI (pG P 0))), (0, .ref (yA Y 72)), (1, .int (iI x))]) rfl ?_
  refine g_aload_n (q := 88) B4 dL_refuses_87 rfl 5 rfl ?_
  refine g_iconst (q := 89) B4 dL_refuses_88 rfl ?_
  refine g_iload_n (q := 90) B4 dL_refuses_89 rfl 6 rfl ?_
  refine g_iconst (q := 91) B4 dL_refuses_90 rfl ?_
  refine g_irem (q := 92) B4 dL_refuses_91 rfl (by omega) (by omega) (by omega) (by omega) ?_
  refine g_if_ne (t := 104) (q := 95) B4 dL_refuses_92 (by decide) rfl ⟨by omega, by omega⟩ (fun cq92 => ?_) (fun cq92 => absurd cq92 (by omega))
  refine g_sipush (q := 107) B4 dL_refuses_104 rfl (by decide) ?_
  refine g_iload_n (q := 108) B4 dL_refuses_107 rfl 6 rfl ?_
  refine g_bipush (q := 110) B4 dL_refuses_108 rfl (by decide) ?_
  refine g_irem (q := 111) B4 dL_refuses_110 rfl (by omega) (by omega) (by omega) (by omega) ?_
  refine g_iadd (q := 112) B4 dL_refuses_111 rfl ?_
  refine g_iconst (q := 113) B4 dL_refuses_112 rfl ?_
  refine g_iconst (q := 114) B4 dL_refuses_113 rfl ?_
  refine g_callN (q := 117) (m1 := 1) (c2 := 3) (As := [.ref (yA Y 72), .int (iI 0), .int (iI (256 + (x % 9))), .int (iI 0), .int (iI 0)]) (st := []) B4 dL_refuses_114 rfl (k_append (Y := Y) (S := S3) hst A3 W (256 + (x % 9)) ⟨by omega, by omega⟩ 0 0 (by omega)) eL_call w179 (by decide) rfl rfl (Nat.le_of_ble_eq_true rfl) (by omega) (Nat.le_trans (show 3 ≤ 36 by omega) E.2.1) (Nat.le_trans (show 6 * (3) ≤ 6 * 36 by omega) E.2.2) (fun v S5 hS5 => ?_)
  obtain ⟨rfl, A5, K5⟩ := hS5
  have T5 := kp_t T3 K5
  have B6 := gB_K (c := 3) B4 (Nat.le_trans (show 3 ≤ 36 by omega) E.2.1) (Nat.le_trans (show 6 * (3) ≤ 6 * 36 by omega) E.2.2)
  show gW Y (xK X (3)) S5 117 [(6, .int (iI (2 + (x % 9)))), (5, .int (iI ((runsF (pG P)) + (x % 99)))), (4, .int (iI ((pG P 0) + (x % 99)))), (3, .int (iI (runsF (pG P)))), (2, .int (iI (pG P 0))), (0, .ref (yA Y 72)), (1, .int (iI x))] [.int (iI (-9999002))]
  refine g_ldc (z := -9999002) (q := 119) B6 dL_refuses_117 rfl w279 (by decide) ?_
  refine g_icmp_ne (t := 708) (q := 122) B6 dL_refuses_119 (by decide) rfl ⟨by omega, by omega⟩ ⟨by omega, by omega⟩ (fun cq119 => absurd cq119 (by decide)) (fun cq119 => ?_)
  refine g_aload_n (q := 123) B6 dL_refuses_122 rfl 5 rfl ?_
  refine g_iconst (q := 124) B6 dL_refuses_123 rfl ?_
  refine g_bipush (q := 126) B6 dL_refuses_124 rfl (by decide) ?_
  refine g_iload_n (q := 127) B6 dL_refuses_126 rfl 6 rfl ?_
  refine g_bipush (q := 129) B6 dL_refuses_127 rfl (by decide) ?_
  refine g_irem (q := 130) B6 dL_refuses_129 rfl (by omega) (by omega) (by omega) (by omega) ?_
  refine g_iadd (q := 131) B6 dL_refuses_130 rfl ?_
  refine g_iconst (q := 132) B6 dL_refuses_131 rfl ?_
  refine g_iconst (q := 133) B6 dL_refuses_132 rfl ?_
  refine g_callN (q := 136) (m1 := 1) (c2 := 4) (As := [.ref (yA Y 72), .int (iI 2), .int (iI (10 + (x % 50))), .int (iI 0), .int (iI 0)]) (st := []) B6 dL_refuses_133 rfl (k_about (Y := Y) (S := S5) hst A5 W (10 + (x % 50)) ⟨by omega, by omega⟩ 0 0 (x := -9999002) (hx := tv_1 (if_neg (by omega)))) eL_call w179 (by decide) rfl rfl (Nat.le_of_ble_eq_true rfl) (by omega) (Nat.le_trans (show 4 ≤ 36 by omega) E.2.1) (Nat.le_trans (show 6 * (4) ≤ 6 * 36 by omega) E.2.2) (fun v S7 hS7 => ?_)
  obtain ⟨rfl, A7, K7⟩ := hS7
  have T7 := kp_t T5 K7
  have B8 := gB_K (c := 4) B6 (Nat.le_trans (show 4 ≤ 36 by omega) E.2.1) (Nat.le_trans (show 6 * (4) ≤ 6 * 36 by omega) E.2.2)
  show gW Y (xK X (4)) S7 136 [(6, .int (iI (2 + (x % 9)))), (5, .int (iI ((runsF (pG P)) + (x % 99)))), (4, .int (iI ((pG P 0) + (x % 99)))), (3, .int (iI (runsF (pG P)))), (2, .int (iI (pG P 0))), (0, .ref (yA Y 72)), (1, .int (iI x))] [.int (iI (-9999002))]
  refine g_ldc (z := -9999002) (q := 138) B8 dL_refuses_136 rfl w279 (by decide) ?_
  refine g_icmp_ne (t := 708) (q := 141) B8 dL_refuses_138 (by decide) rfl ⟨by omega, by omega⟩ ⟨by omega, by omega⟩ (fun cq138 => absurd cq138 (by decide)) (fun cq138 => ?_)
  refine g_aload_n (q := 142) B8 dL_refuses_141 rfl 5 rfl ?_
  refine g_iconst (q := 143) B8 dL_refuses_142 rfl ?_
  refine g_iload (q := 145) B8 dL_refuses_143 rfl 2 rfl ?_
  refine g_bipush (q := 147) B8 dL_refuses_145 rfl (by decide) ?_
  refine g_iconst (q := 148) B8 dL_refuses_147 rfl ?_
  refine g_callN (q := 151) (m1 := 1) (c2 := 5) (As := [.ref (yA Y 72), .int (iI 3), .int (iI ((pG P 0) + (x % 99))), .int (iI 99), .int (iI 0)]) (st := []) B8 dL_refuses_148 rfl (k_jewelOf (Y := Y) (S := S7) hst A7 W ((pG P 0) + (x % 99)) ⟨by omega, by omega⟩ 99 ⟨by omega, by omega⟩ 0 (x := -9999001) (hx := tv_1 (if_neg (by omega)))) eL_call w179 (by decide) rfl rfl (Nat.le_of_ble_eq_true rfl) (by omega) (Nat.le_trans (show 5 ≤ 36 by omega) E.2.1) (Nat.le_trans (show 6 * (5) ≤ 6 * 36 by omega) E.2.2) (fun v S9 hS9 => ?_)
  obtain ⟨rfl, A9, K9⟩ := hS9
  have T9 := kp_t T7 K9
  have B10 := gB_K (c := 5) B8 (Nat.le_trans (show 5 ≤ 36 by omega) E.2.1) (Nat.le_trans (show 6 * (5) ≤ 6 * 36 by omega) E.2.2)
  show gW Y (xK X (5)) S9 151 [(6, .int (iI (2 + (x % 9)))), (5, .int (iI ((runsF (pG P)) + (x % 99)))), (4, .int (iI ((pG P 0) + (x % 99)))), (3, .int (iI (runsF (pG P)))), (2, .int (iI (pG P 0))), (0, .ref (yA Y 72)), (1, .int (iI x))] [.int (iI (-9999001))]
  refine g_ldc (z := -9999001) (q := 153) B10 dL_refuses_151 rfl w573 (by decide) ?_
  refine g_icmp_ne (t := 708) (q := 156) B10 dL_refuses_153 (by decide) rfl ⟨by omega, by omega⟩ ⟨by omega, by omega⟩ (fun cq153 => absurd cq153 (by decide)) (fun cq153 => ?_)
  refine g_aload_n (q := 157) B10 dL_refuses_156 rfl 5 rfl ?_
  refine g_iconst (q := 158) B10 dL_refuses_157 rfl ?_
  refine g_iconst (q := 159) B10 dL_refuses_158 rfl ?_
  refine g_iconst (q := 160) B10 dL_refuses_159 rfl ?_
  refine g_iload_n (q := 161) B10 dL_refuses_160 rfl 6 rfl ?_
  refine g_bipush (q := 163) B10 dL_refuses_161 rfl (by decide) ?_
  refine g_irem (q := 164) B10 dL_refuses_163 rfl (by omega) (by omega) (by omega) (by omega) ?_
  refine g_iadd (q := 165) B10 dL_refuses_164 rfl ?_
  refine g_iconst (q := 166) B10 dL_refuses_165 rfl ?_
  refine g_callN (q := 169) (m1 := 1) (c2 := 6) (As := [.ref (yA Y 72), .int (iI 3), .int (iI 0), .int (iI (3 + (x % 9))), .int (iI 0)]) (st := []) B10 dL_refuses_166 rfl (k_jewelOf (Y := Y) (S := S9) hst A9 W 0 ⟨by omega, by omega⟩ (3 + (x % 9)) ⟨by omega, by omega⟩ 0 (x := -9999002) (hx := tv_2 ((if_pos (by omega)).trans (if_neg (by omega))))) eL_call w179 (by decide) rfl rfl (Nat.le_of_ble_eq_true rfl) (by omega) (Nat.le_trans (show 6 ≤ 36 by omega) E.2.1) (Nat.le_trans (show 6 * (6) ≤ 6 * 36 by omega) E.2.2) (fun v S11 hS11 => ?_)
  obtain ⟨rfl, A11, K11⟩ := hS11
  have T11 := kp_t T9 K11
  have B12 := gB_K (c := 6) B10 (Nat.le_trans (show 6 ≤ 36 by omega) E.2.1) (Nat.le_trans (show 6 * (6) ≤ 6 * 36 by omega) E.2.2)
  show gW Y (xK X (6)) S11 169 [(6, .int (iI (2 + (x % 9)))), (5, .int (iI ((runsF (pG P)) + (x % 99)))), (4, .int (iI ((pG P 0) + (x % 99)))), (3, .int (iI (runsF (pG P)))), (2, .int (iI (pG P 0))), (0, .ref (yA Y 72)), (1, .int (iI x))] [.int (iI (-9999002))]
  refine g_ldc (z := -9999002) (q := 171) B12 dL_refuses_169 rfl w279 (by decide) ?_
  refine g_icmp_ne (t := 708) (q := 174) B12 dL_refuses_171 (by decide) rfl ⟨by omega, by omega⟩ ⟨by omega, by omega⟩ (fun cq171 => absurd cq171 (by decide)) (fun cq171 => ?_)
  refine g_aload_n (q := 175) B12 dL_refuses_174 rfl 5 rfl ?_
  refine g_iconst (q := 176) B12 dL_refuses_175 rfl ?_
  refine g_iload (q := 178) B12 dL_refuses_176 rfl 2 rfl ?_
  refine g_bipush (q := 180) B12 dL_refuses_178 rfl (by decide) ?_
  refine g_iconst (q := 181) B12 dL_refuses_180 rfl ?_
  refine g_callN (q := 184) (m1 := 1) (c2 := 7) (As := [.ref (yA Y 72), .int (iI 4), .int (iI ((pG P 0) + (x % 99))), .int (iI 99), .int (iI 0)]) (st := []) B12 dL_refuses_181 rfl (k_placeOf (Y := Y) (S := S11) hst A11 W ((pG P 0) + (x % 99)) ⟨by omega, by omega⟩ 99 ⟨by omega, by omega⟩ 0 (x := -9999001) (hx := tv_1 (if_neg (by omega)))) eL_call w179 (by decide) rfl rfl (Nat.le_of_ble_eq_true rfl) (by omega) (Nat.le_trans (show 7 ≤ 36 by omega) E.2.1) (Nat.le_trans (show 6 * (7) ≤ 6 * 36 by omega) E.2.2) (fun v S13 hS13 => ?_)
  obtain ⟨rfl, A13, K13⟩ := hS13
  have T13 := kp_t T11 K13
  have B14 := gB_K (c := 7) B12 (Nat.le_trans (show 7 ≤ 36 by omega) E.2.1) (Nat.le_trans (show 6 * (7) ≤ 6 * 36 by omega) E.2.2)
  show gW Y (xK X (7)) S13 184 [(6, .int (iI (2 + (x % 9)))), (5, .int (iI ((runsF (pG P)) + (x % 99)))), (4, .int (iI ((pG P 0) + (x % 99)))), (3, .int (iI (runsF (pG P)))), (2, .int (iI (pG P 0))), (0, .ref (yA Y 72)), (1, .int (iI x))] [.int (iI (-9999001))]
  refine g_ldc (z := -9999001) (q := 186) B14 dL_refuses_184 rfl w573 (by decide) ?_
  refine g_icmp_ne (t := 708) (q := 189) B14 dL_refuses_186 (by decide) rfl ⟨by omega, by omega⟩ ⟨by omega, by omega⟩ (fun cq186 => absurd cq186 (by decide)) (fun cq186 => ?_)
  refine g_aload_n (q := 190) B14 dL_refuses_189 rfl 5 rfl ?_
  refine g_iconst (q := 191) B14 dL_refuses_190 rfl ?_
  refine g_iconst (q := 192) B14 dL_refuses_191 rfl ?_
  refine g_iconst (q := 193) B14 dL_refuses_192 rfl ?_
  refine g_iload_n (q := 194) B14 dL_refuses_193 rfl 6 rfl ?_
  refine g_bipush (q := 196) B14 dL_refuses_194 rfl (by decide) ?_
  refine g_irem (q := 197) B14 dL_refuses_196 rfl (by omega) (by omega) (by omega) (by omega) ?_
  refine g_iadd (q := 198) B14 dL_refuses_197 rfl ?_
  refine g_iconst (q := 199) B14 dL_refuses_198 rfl ?_
  refine g_callN (q := 202) (m1 := 1) (c2 := 8) (As := [.ref (yA Y 72), .int (iI 4), .int (iI 0), .int (iI (4 + (x % 9))), .int (iI 0)]) (st := []) B14 dL_refuses_199 rfl (k_placeOf (Y := Y) (S := S13) hst A13 W 0 ⟨by omega, by omega⟩ (4 + (x % 9)) ⟨by omega, by omega⟩ 0 (x := -9999002) (hx := tv_2 ((if_pos (by omega)).trans (if_neg (by omega))))) eL_call w179 (by decide) rfl rfl (Nat.le_of_ble_eq_true rfl) (by omega) (Nat.le_trans (show 8 ≤ 36 by omega) E.2.1) (Nat.le_trans (show 6 * (8) ≤ 6 * 36 by omega) E.2.2) (fun v S15 hS15 => ?_)
  obtain ⟨rfl, A15, K15⟩ := hS15
  have T15 := kp_t T13 K15
  have B16 := gB_K (c := 8) B14 (Nat.le_trans (show 8 ≤ 36 by omega) E.2.1) (Nat.le_trans (show 6 * (8) ≤ 6 * 36 by omega) E.2.2)
  show gW Y (xK X (8)) S15 202 [(6, .int (iI (2 + (x % 9)))), (5, .int (iI ((runsF (pG P)) + (x % 99)))), (4, .int (iI ((pG P 0) + (x % 99)))), (3, .int (iI (runsF (pG P)))), (2, .int (iI (pG P 0))), (0, .ref (yA Y 72)), (1, .int (iI x))] [.int (iI (-9999002))]
  refine g_ldc (z := -9999002) (q := 204) B16 dL_refuses_202 rfl w279 (by decide) ?_
  refine g_icmp_ne (t := 708) (q := 207) B16 dL_refuses_204 (by decide) rfl ⟨by omega, by omega⟩ ⟨by omega, by omega⟩ (fun cq204 => absurd cq204 (by decide)) (fun cq204 => ?_)
  refine g_aload_n (q := 208) B16 dL_refuses_207 rfl 5 rfl ?_
  refine g_iconst (q := 209) B16 dL_refuses_208 rfl ?_
  refine g_iload (q := 211) B16 dL_refuses_209 rfl 1 rfl ?_
  refine g_bipush (q := 213) B16 dL_refuses_211 rfl (by decide) ?_
  refine g_iconst (q := 214) B16 dL_refuses_213 rfl ?_
  refine g_callN (q := 217) (m1 := 1) (c2 := 9) (As := [.ref (yA Y 72), .int (iI 5), .int (iI ((runsF (pG P)) + (x % 99))), .int (iI 99), .int (iI 0)]) (st := []) B16 dL_refuses_214 rfl (k_runOf (Y := Y) (S := S15) hst A15 W ((runsF (pG P)) + (x % 99)) ⟨by omega, by omega⟩ 99 ⟨by omega, by omega⟩ 0 (x := -9999001) (hx := tv_1 (if_neg (by omega)))) eL_call w179 (by decide) rfl rfl (Nat.le_of_ble_eq_true rfl) (by omega) (Nat.le_trans (show 9 ≤ 36 by omega) E.2.1) (Nat.le_trans (show 6 * (9) ≤ 6 * 36 by omega) E.2.2) (fun v S17 hS17 => ?_)
  obtain ⟨rfl, A17, K17⟩ := hS17
  have T17 := kp_t T15 K17
  have B18 := gB_K (c := 9) B16 (Nat.le_trans (show 9 ≤ 36 by omega) E.2.1) (Nat.le_trans (show 6 * (9) ≤ 6 * 36 by omega) E.2.2)
  show gW Y (xK X (9)) S17 217 [(6, .int (iI (2 + (x % 9)))), (5, .int (iI ((runsF (pG P)) + (x % 99)))), (4, .int (iI ((pG P 0) + (x % 99)))), (3, .int (iI (runsF (pG P)))), (2, .int (iI (pG P 0))), (0, .ref (yA Y 72)), (1, .int (iI x))] [.int (iI (-9999001))]
  refine g_ldc (z := -9999001) (q := 219) B18 dL_refuses_217 rfl w573 (by decide) ?_
  refine g_icmp_ne (t := 708) (q := 222) B18 dL_refuses_219 (by decide) rfl ⟨by omega, by omega⟩ ⟨by omega, by omega⟩ (fun cq219 => absurd cq219 (by decide)) (fun cq219 => ?_)
  refine g_aload_n (q := 223) B18 dL_refuses_222 rfl 5 rfl ?_
  refine g_iconst (q := 224) B18 dL_refuses_223 rfl ?_
  refine g_iconst (q := 225) B18 dL_refuses_224 rfl ?_
  refine g_iconst (q := 226) B18 dL_refuses_225 rfl ?_
  refine g_iload_n (q := 227) B18 dL_refuses_226 rfl 6 rfl ?_
  refine g_bipush (q := 229) B18 dL_refuses_227 rfl (by decide) ?_
  refine g_irem (q := 230) B18 dL_refuses_229 rfl (by omega) (by omega) (by omega) (by omega) ?_
  refine g_iadd (q := 231) B18 dL_refuses_230 rfl ?_
  refine g_iconst (q := 232) B18 dL_refuses_231 rfl ?_
  refine g_callN (q := 235) (m1 := 1) (c2 := 10) (As := [.ref (yA Y 72), .int (iI 5), .int (iI 0), .int (iI (4 + (x % 9))), .int (iI 0)]) (st := []) B18 dL_refuses_232 rfl (k_runOf (Y := Y) (S := S17) hst A17 W 0 ⟨by omega, by omega⟩ (4 + (x % 9)) ⟨by omega, by omega⟩ 0 (x := -9999002) (hx := tv_2 ((if_pos (by omega)).trans (if_neg (by omega))))) eL_call w179 (by decide) rfl rfl (Nat.le_of_ble_eq_true rfl) (by omega) (Nat.le_trans (show 10 ≤ 36 by omega) E.2.1) (Nat.le_trans (show 6 * (10) ≤ 6 * 36 by omega) E.2.2) (fun v S19 hS19 => ?_)
  obtain ⟨rfl, A19, K19⟩ := hS19
  have T19 := kp_t T17 K19
  have B20 := gB_K (c := 10) B18 (Nat.le_trans (show 10 ≤ 36 by omega) E.2.1) (Nat.le_trans (show 6 * (10) ≤ 6 * 36 by omega) E.2.2)
  show gW Y (xK X (10)) S19 235 [(6, .int (iI (2 + (x % 9)))), (5, .int (iI ((runsF (pG P)) + (x % 99)))), (4, .int (iI ((pG P 0) + (x % 99)))), (3, .int (iI (runsF (pG P)))), (2, .int (iI (pG P 0))), (0, .ref (yA Y 72)), (1, .int (iI x))] [.int (iI (-9999002))]
  refine g_ldc (z := -9999002) (q := 237) B20 dL_refuses_235 rfl w279 (by decide) ?_
  refine g_icmp_ne (t := 708) (q := 240) B20 dL_refuses_237 (by decide) rfl ⟨by omega, by omega⟩ ⟨by omega, by omega⟩ (fun cq237 => absurd cq237 (by decide)) (fun cq237 => ?_)
  refine g_aload_n (q := 241) B20 dL_refuses_240 rfl 5 rfl ?_
  refine g_bipush (q := 243) B20 dL_refuses_241 rfl (by decide) ?_
  refine g_iload (q := 245) B20 dL_refuses_243 rfl 0 rfl ?_
  refine g_iconst (q := 246) B20 dL_refuses_245 rfl ?_
  refine g_iconst (q := 247) B20 dL_refuses_246 rfl ?_
  refine g_callN (q := 250) (m1 := 1) (c2 := 11) (As := [.ref (yA Y 72), .int (iI 6), .int (iI (2 + (x % 9))), .int (iI 0), .int (iI 0)]) (st := []) B20 dL_refuses_247 rfl (k_has (Y := Y) (S := S19) hst A19 W (2 + (x % 9)) ⟨by omega, by omega⟩ 0 ⟨by omega, by omega⟩ 0 (x := -9999001) (hx := tv_1 (if_neg (by omega)))) eL_call w179 (by decide) rfl rfl (Nat.le_of_ble_eq_true rfl) (by omega) (Nat.le_trans (show 11 ≤ 36 by omega) E.2.1) (Nat.le_trans (show 6 * (11) ≤ 6 * 36 by omega) E.2.2) (fun v S21 hS21 => ?_)
  obtain ⟨rfl, A21, K21⟩ := hS21
  have T21 := kp_t T19 K21
  have B22 := gB_K (c := 11) B20 (Nat.le_trans (show 11 ≤ 36 by omega) E.2.1) (Nat.le_trans (show 6 * (11) ≤ 6 * 36 by omega) E.2.2)
  show gW Y (xK X (11)) S21 250 [(6, .int (iI (2 + (x % 9)))), (5, .int (iI ((runsF (pG P)) + (x % 99)))), (4, .int (iI ((pG P 0) + (x % 99)))), (3, .int (iI (runsF (pG P)))), (2, .int (iI (pG P 0))), (0, .ref (yA Y 72)), (1, .int (iI x))] [.int (iI (-9999001))]
  refine g_ldc (z := -9999001) (q := 252) B22 dL_refuses_250 rfl w573 (by decide) ?_
  refine g_icmp_ne (t := 708) (q := 255) B22 dL_refuses_252 (by decide) rfl ⟨by omega, by omega⟩ ⟨by omega, by omega⟩ (fun cq252 => absurd cq252 (by decide)) (fun cq252 => ?_)
  refine g_aload_n (q := 256) B22 dL_refuses_255 rfl 5 rfl ?_
  refine g_bipush (q := 258) B22 dL_refuses_256 rfl (by decide) ?_
  refine g_iconst (q := 259) B22 dL_refuses_258 rfl ?_
  refine g_iload_n (q := 260) B22 dL_refuses_259 rfl 6 rfl ?_
  refine g_iconst (q := 261) B22 dL_refuses_260 rfl ?_
  refine g_irem (q := 262) B22 dL_refuses_261 rfl (by omega) (by omega) (by omega) (by omega) ?_
  refine g_if_ne (t := 269) (q := 265) B22 dL_refuses_262 (by decide) rfl ⟨by omega, by omega⟩ (fun cq262 => ?_) (fun cq262 => absurd cq262 (by omega))
  refine g_iconst (q := 270) B22 dL_refuses_269 rfl ?_
  refine g_iload_n (q := 271) B22 dL_refuses_270 rfl 6 rfl ?_
  refine g_bipush (q := 273) B22 dL_refuses_271 rfl (by decide) ?_
  refine g_irem (q := 274) B22 dL_refuses_273 rfl (by omega) (by omega) (by omega) (by omega) ?_
  refine g_iadd (q := 275) B22 dL_refuses_274 rfl ?_
  refine g_iconst (q := 276) B22 dL_refuses_275 rfl ?_
  refine g_callN (q := 279) (m1 := 1) (c2 := 12) (As := [.ref (yA Y 72), .int (iI 6), .int (iI 0), .int (iI (4 + (x % 9))), .int (iI 0)]) (st := []) B22 dL_refuses_276 rfl (k_has (Y := Y) (S := S21) hst A21 W 0 ⟨by omega, by omega⟩ (4 + (x % 9)) ⟨by omega, by omega⟩ 0 (x := -9999001) (hx := tv_1 ((if_pos (by omega)).trans (if_neg (by omega))))) eL_call w179 (by decide) rfl rfl (Nat.le_of_ble_eq_true rfl) (by omega) (Nat.le_trans (show 12 ≤ 36 by omega) E.2.1) (Nat.le_trans (show 6 * (12) ≤ 6 * 36 by omega) E.2.2) (fun v S23 hS23 => ?_)
  obtain ⟨rfl, A23, K23⟩ := hS23
  have T23 := kp_t T21 K23
  have B24 := gB_K (c := 12) B22 (Nat.le_trans (show 12 ≤ 36 by omega) E.2.1) (Nat.le_trans (show 6 * (12) ≤ 6 * 36 by omega) E.2.2)
  show gW Y (xK X (12)) S23 279 [(6, .int (iI (2 + (x % 9)))), (5, .int (iI ((runsF (pG P)) + (x % 99)))), (4, .int (iI ((pG P 0) + (x % 99)))), (3, .int (iI (runsF (pG P)))), (2, .int (iI (pG P 0))), (0, .ref (yA Y 72)), (1, .int (iI x))] [.int (iI (-9999001))]
  refine g_ldc (z := -9999001) (q := 281) B24 dL_refuses_279 rfl w573 (by decide) ?_
  refine g_icmp_ne (t := 708) (q := 284) B24 dL_refuses_281 (by decide) rfl ⟨by omega, by omega⟩ ⟨by omega, by omega⟩ (fun cq281 => absurd cq281 (by decide)) (fun cq281 => ?_)
  refine g_aload_n (q := 285) B24 dL_refuses_284 rfl 5 rfl ?_
  refine g_bipush (q := 287) B24 dL_refuses_285 rfl (by decide) ?_
  refine g_iload_n (q := 288) B24 dL_refuses_287 rfl 6 rfl ?_
  refine g_iconst (q := 289) B24 dL_refuses_288 rfl ?_
  refine g_irem (q := 290) B24 dL_refuses_289 rfl (by omega) (by omega) (by omega) (by omega) ?_
  refine g_if_ne (t := 297) (q := 293) B24 dL_refuses_290 (by decide) rfl ⟨by omega, by omega⟩ (fun cq290 => ?_) (fun cq290 => absurd cq290 (by omega))
  refine g_iconst (q := 298) B24 dL_refuses_297 rfl ?_
  refine g_iload_n (q := 299) B24 dL_refuses_298 rfl 6 rfl ?_
  refine g_bipush (q := 301) B24 dL_refuses_299 rfl (by decide) ?_
  refine g_irem (q := 302) B24 dL_refuses_301 rfl (by omega) (by omega) (by omega) (by omega) ?_
  refine g_iadd (q := 303) B24 dL_refuses_302 rfl ?_
  refine g_iconst (q := 304) B24 dL_refuses_303 rfl ?_
  refine g_iconst (q := 305) B24 dL_refuses_304 rfl ?_
  refine g_callN (q := 308) (m1 := 1) (c2 := 13) (As := [.ref (yA Y 72), .int (iI 7), .int (iI (4 + (x % 9))), .int (iI 0), .int (iI 0)]) (st := []) B24 dL_refuses_305 rfl (k_jewel (Y := Y) (S := S23) hst A23 W (4 + (x % 9)) ⟨by omega, by omega⟩ 0 ⟨by omega, by omega⟩ 0 (x := -9999001) (hx := tv_1 (if_neg (by omega))) (P' := P) (hP := if_neg (ne1 (if_neg (by omega))))) eL_call w179 (by decide) rfl rfl (Nat.le_of_ble_eq_true rfl) (by omega) (Nat.le_trans (show 13 ≤ 36 by omega) E.2.1) (Nat.le_trans (show 6 * (13) ≤ 6 * 36 by omega) E.2.2) (fun v S25 hS25 => ?_)
  obtain ⟨rfl, A25, K25⟩ := hS25
  have T25 := kp_t T23 K25
  have B26 := gB_K (c := 13) B24 (Nat.le_trans (show 13 ≤ 36 by omega) E.2.1) (Nat.le_trans (show 6 * (13) ≤ 6 * 36 by omega) E.2.2)
  show gW Y (xK X (13)) S25 308 [(6, .int (iI (2 + (x % 9)))), (5, .int (iI ((runsF (pG P)) + (x % 99)))), (4, .int (iI ((pG P 0) + (x % 99)))), (3, .int (iI (runsF (pG P)))), (2, .int (iI (pG P 0))), (0, .ref (yA Y 72)), (1, .int (iI x))] [.int (iI (-9999001))]
  refine g_ldc (z := -9999001) (q := 310) B26 dL_refuses_308 rfl w573 (by decide) ?_
  refine g_icmp_ne (t := 708) (q := 313) B26 dL_refuses_310 (by decide) rfl ⟨by omega, by omega⟩ ⟨by omega, by omega⟩ (fun cq310 => absurd cq310 (by decide)) (fun cq310 => ?_)
  refine g_aload_n (q := 314) B26 dL_refuses_313 rfl 5 rfl ?_
  refine g_bipush (q := 316) B26 dL_refuses_314 rfl (by decide) ?_
  refine g_iconst (q := 317) B26 dL_refuses_316 rfl ?_
  refine g_iload_n (q := 318) B26 dL_refuses_317 rfl 6 rfl ?_
  refine g_iconst (q := 319) B26 dL_refuses_318 rfl ?_
  refine g_irem (q := 320) B26 dL_refuses_319 rfl (by omega) (by omega) (by omega) (by omega) ?_
  refine g_if_ne (t := 327) (q := 323) B26 dL_refuses_320 (by decide) rfl ⟨by omega, by omega⟩ (fun cq320 => ?_) (fun cq320 => absurd cq320 (by omega))
  refine g_bipush (q := 329) B26 dL_refuses_327 rfl (by decide) ?_
  refine g_iload_n (q := 330) B26 dL_refuses_329 rfl 6 rfl ?_
  refine g_bipush (q := 332) B26 dL_refuses_330 rfl (by decide) ?_
  refine g_irem (q := 333) B26 dL_refuses_332 rfl (by omega) (by omega) (by omega) (by omega) ?_
  refine g_iadd (q := 334) B26 dL_refuses_333 rfl ?_
  refine g_iconst (q := 335) B26 dL_refuses_334 rfl ?_
  refine g_callN (q := 338) (m1 := 1) (c2 := 14) (As := [.ref (yA Y 72), .int (iI 7), .int (iI 0), .int (iI (10 + (x % 9))), .int (iI 0)]) (st := []) B26 dL_refuses_335 rfl (k_jewel (Y := Y) (S := S25) hst A25 W 0 ⟨by omega, by omega⟩ (10 + (x % 9)) ⟨by omega, by omega⟩ 0 (x := -9999002) (hx := tv_2 ((if_pos (by omega)).trans (if_neg (by omega)))) (P' := P) (hP := if_neg (ne2 ((if_pos (by omega)).trans (if_neg (by omega)))))) eL_call w179 (by decide) rfl rfl (Nat.le_of_ble_eq_true rfl) (by omega) (Nat.le_trans (show 14 ≤ 36 by omega) E.2.1) (Nat.le_trans (show 6 * (14) ≤ 6 * 36 by omega) E.2.2) (fun v S27 hS27 => ?_)
  obtain ⟨rfl, A27, K27⟩ := hS27
  have T27 := kp_t T25 K27
  have B28 := gB_K (c := 14) B26 (Nat.le_trans (show 14 ≤ 36 by omega) E.2.1) (Nat.le_trans (show 6 * (14) ≤ 6 * 36 by omega) E.2.2)
  show gW Y (xK X (14)) S27 338 [(6, .int (iI (2 + (x % 9)))), (5, .int (iI ((runsF (pG P)) + (x % 99)))), (4, .int (iI ((pG P 0) + (x % 99)))), (3, .int (iI (runsF (pG P)))), (2, .int (iI (pG P 0))), (0, .ref (yA Y 72)), (1, .int (iI x))] [.int (iI (-9999002))]
  refine g_ldc (z := -9999002) (q := 340) B28 dL_refuses_338 rfl w279 (by decide) ?_
  refine g_icmp_ne (t := 708) (q := 343) B28 dL_refuses_340 (by decide) rfl ⟨by omega, by omega⟩ ⟨by omega, by omega⟩ (fun cq340 => absurd cq340 (by decide)) (fun cq340 => ?_)
  refine g_aload_n (q := 344) B28 dL_refuses_343 rfl 5 rfl ?_
  refine g_bipush (q := 346) B28 dL_refuses_344 rfl (by decide) ?_
  refine g_iload (q := 348) B28 dL_refuses_346 rfl 2 rfl ?_
  refine g_iconst (q := 349) B28 dL_refuses_348 rfl ?_
  refine g_iconst (q := 350) B28 dL_refuses_349 rfl ?_
  refine g_callN (q := 353) (m1 := 1) (c2 := 15) (As := [.ref (yA Y 72), .int (iI 8), .int (iI ((pG P 0) + (x % 99))), .int (iI 0), .int (iI 0)]) (st := []) B28 dL_refuses_350 rfl (k_exchange (Y := Y) (S := S27) hst A27 W ((pG P 0) + (x % 99)) ⟨by omega, by omega⟩ 0 ⟨by omega, by omega⟩ 0 (x := -9999001) (hx := tv_1 (if_neg (by omega))) (P' := P) (hP := if_neg (ne1 (if_neg (by omega))))) eL_call w179 (by decide) rfl rfl (Nat.le_of_ble_eq_true rfl) (by omega) (Nat.le_trans (show 15 ≤ 36 by omega) E.2.1) (Nat.le_trans (show 6 * (15) ≤ 6 * 36 by omega) E.2.2) (fun v S29 hS29 => ?_)
  obtain ⟨rfl, A29, K29⟩ := hS29
  have T29 := kp_t T27 K29
  have B30 := gB_K (c := 15) B28 (Nat.le_trans (show 15 ≤ 36 by omega) E.2.1) (Nat.le_trans (show 6 * (15) ≤ 6 * 36 by omega) E.2.2)
  show gW Y (xK X (15)) S29 353 [(6, .int (iI (2 + (x % 9)))), (5, .int (iI ((runsF (pG P)) + (x % 99)))), (4, .int (iI ((pG P 0) + (x % 99)))), (3, .int (iI (runsF (pG P)))), (2, .int (iI (pG P 0))), (0, .ref (yA Y 72)), (1, .int (iI x))] [.int (iI (-9999001))]
  refine g_ldc (z := -9999001) (q := 355) B30 dL_refuses_353 rfl w573 (by decide) ?_
  refine g_icmp_ne (t := 708) (q := 358) B30 dL_refuses_355 (by decide) rfl ⟨by omega, by omega⟩ ⟨by omega, by omega⟩ (fun cq355 => absurd cq355 (by decide)) (fun cq355 => ?_)
  refine g_aload_n (q := 359) B30 dL_refuses_358 rfl 5 rfl ?_
  refine g_bipush (q := 361) B30 dL_refuses_359 rfl (by decide) ?_
  refine g_iconst (q := 362) B30 dL_refuses_361 rfl ?_
  refine g_iload (q := 364) B30 dL_refuses_362 rfl 2 rfl ?_
  refine g_iconst (q := 365) B30 dL_refuses_364 rfl ?_
  refine g_callN (q := 368) (m1 := 1) (c2 := 16) (As := [.ref (yA Y 72), .int (iI 8), .int (iI 0), .int (iI ((pG P 0) + (x % 99))), .int (iI 0)]) (st := []) B30 dL_refuses_365 rfl (k_exchange (Y := Y) (S := S29) hst A29 W 0 ⟨by omega, by omega⟩ ((pG P 0) + (x % 99)) ⟨by omega, by omega⟩ 0 (x := -9999001) (hx := tv_1 (if_neg (by omega))) (P' := P) (hP := if_neg (ne1 (if_neg (by omega))))) eL_call w179 (by decide) rfl rfl (Nat.le_of_ble_eq_true rfl) (by omega) (Nat.le_trans (show 16 ≤ 36 by omega) E.2.1) (Nat.le_trans (show 6 * (16) ≤ 6 * 36 by omega) E.2.2) (fun v S31 hS31 => ?_)
  obtain ⟨rfl, A31, K31⟩ := hS31
  have T31 := kp_t T29 K31
  have B32 := gB_K (c := 16) B30 (Nat.le_trans (show 16 ≤ 36 by omega) E.2.1) (Nat.le_trans (show 6 * (16) ≤ 6 * 36 by omega) E.2.2)
  show gW Y (xK X (16)) S31 368 [(6, .int (iI (2 + (x % 9)))), (5, .int (iI ((runsF (pG P)) + (x % 99)))), (4, .int (iI ((pG P 0) + (x % 99)))), (3, .int (iI (runsF (pG P)))), (2, .int (iI (pG P 0))), (0, .ref (yA Y 72)), (1, .int (iI x))] [.int (iI (-9999001))]
  refine g_ldc (z := -9999001) (q := 370) B32 dL_refuses_368 rfl w573 (by decide) ?_
  refine g_icmp_ne (t := 708) (q := 373) B32 dL_refuses_370 (by decide) rfl ⟨by omega, by omega⟩ ⟨by omega, by omega⟩ (fun cq370 => absurd cq370 (by decide)) (fun cq370 => ?_)
  refine g_aload_n (q := 374) B32 dL_refuses_373 rfl 5 rfl ?_
  refine g_bipush (q := 376) B32 dL_refuses_374 rfl (by decide) ?_
  refine g_iload (q := 378) B32 dL_refuses_376 rfl 2 rfl ?_
  refine g_iconst (q := 379) B32 dL_refuses_378 rfl ?_
  refine g_iconst (q := 380) B32 dL_refuses_379 rfl ?_
  refine g_callN (q := 383) (m1 := 1) (c2 := 17) (As := [.ref (yA Y 72), .int (iI 9), .int (iI ((pG P 0) + (x % 99))), .int (iI 0), .int (iI 0)]) (st := []) B32 dL_refuses_380 rfl (k_breakAt (Y := Y) (S := S31) hst A31 W ((pG P 0) + (x % 99)) ⟨by omega, by omega⟩ 0 0 (x := -9999001) (hx := tv_1 (if_neg (by omega))) (P' := P) (hP := if_neg (ne1 (if_neg (by omega))))) eL_call w179 (by decide) rfl rfl (Nat.le_of_ble_eq_true rfl) (by omega) (Nat.le_trans (show 17 ≤ 36 by omega) E.2.1) (Nat.le_trans (show 6 * (17) ≤ 6 * 36 by omega) E.2.2) (fun v S33 hS33 => ?_)
  obtain ⟨rfl, A33, K33⟩ := hS33
  have T33 := kp_t T31 K33
  have B34 := gB_K (c := 17) B32 (Nat.le_trans (show 17 ≤ 36 by omega) E.2.1) (Nat.le_trans (show 6 * (17) ≤ 6 * 36 by omega) E.2.2)
  show gW Y (xK X (17)) S33 383 [(6, .int (iI (2 + (x % 9)))), (5, .int (iI ((runsF (pG P)) + (x % 99)))), (4, .int (iI ((pG P 0) + (x % 99)))), (3, .int (iI (runsF (pG P)))), (2, .int (iI (pG P 0))), (0, .ref (yA Y 72)), (1, .int (iI x))] [.int (iI (-9999001))]
  refine g_ldc (z := -9999001) (q := 385) B34 dL_refuses_383 rfl w573 (by decide) ?_
  refine g_icmp_ne (t := 708) (q := 388) B34 dL_refuses_385 (by decide) rfl ⟨by omega, by omega⟩ ⟨by omega, by omega⟩ (fun cq385 => absurd cq385 (by decide)) (fun cq385 => ?_)
  refine g_aload_n (q := 389) B34 dL_refuses_388 rfl 5 rfl ?_
  refine g_iconst (q := 390) B34 dL_refuses_389 rfl ?_
  refine g_iconst (q := 391) B34 dL_refuses_390 rfl ?_
  refine g_callW (q := 394) (c2 := 18) (As := [.ref (yA Y 72), .int (iI 0), .int (iI 1)]) (st := []) B34 dL_refuses_391 rfl (k_cut (Y := Y) (S := S33) hst A33 W 1 (by decide) 0 ⟨by omega, by omega⟩  (x := -9999001) (hx := tv_1 (if_neg (by omega))) (P' := P) (hP := if_neg (ne1 (if_neg (by omega))))) eL_cuts w844 (by decide) rfl rfl (Nat.le_of_ble_eq_true rfl) (by omega) (Nat.le_trans (show 18 ≤ 36 by omega) E.2.1) (Nat.le_trans (show 6 * (18) ≤ 6 * 36 by omega) E.2.2) (fun v S35 hS35 => ?_)
  obtain ⟨rfl, A35, K35⟩ := hS35
  have T35 := kp_t T33 K35
  have B36 := gB_K (c := 18) B34 (Nat.le_trans (show 18 ≤ 36 by omega) E.2.1) (Nat.le_trans (show 6 * (18) ≤ 6 * 36 by omega) E.2.2)
  show gW Y (xK X (18)) S35 394 [(6, .int (iI (2 + (x % 9)))), (5, .int (iI ((runsF (pG P)) + (x % 99)))), (4, .int (iI ((pG P 0) + (x % 99)))), (3, .int (iI (runsF (pG P)))), (2, .int (iI (pG P 0))), (0, .ref (yA Y 72)), (1, .int (iI x))] [.int (iI (-9999001))]
  refine g_ldc (z := -9999001) (q := 396) B36 dL_refuses_394 rfl w573 (by decide) ?_
  refine g_icmp_ne (t := 708) (q := 399) B36 dL_refuses_396 (by decide) rfl ⟨by omega, by omega⟩ ⟨by omega, by omega⟩ (fun cq396 => absurd cq396 (by decide)) (fun cq396 => ?_)
  refine g_aload_n (q := 400) B36 dL_refuses_399 rfl 5 rfl ?_
  refine g_iload (q := 402) B36 dL_refuses_400 rfl 2 rfl ?_
  refine g_iconst (q := 403) B36 dL_refuses_402 rfl ?_
  refine g_callW (q := 406) (c2 := 19) (As := [.ref (yA Y 72), .int (iI ((pG P 0) + (x % 99))), .int (iI 0)]) (st := []) B36 dL_refuses_403 rfl (k_cut (Y := Y) (S := S35) hst A35 W 0 (by decide) ((pG P 0) + (x % 99)) ⟨by omega, by omega⟩  (x := -9999001) (hx := tv_1 (if_neg (by omega))) (P' := P) (hP := if_neg (ne1 (if_neg (by omega))))) eL_cuts w844 (by decide) rfl rfl (Nat.le_of_ble_eq_true rfl) (by omega) (Nat.le_trans (show 19 ≤ 36 by omega) E.2.1) (Nat.le_trans (show 6 * (19) ≤ 6 * 36 by omega) E.2.2) (fun v S37 hS37 => ?_)
  obtain ⟨rfl, A37, K37⟩ := hS37
  have T37 := kp_t T35 K37
  have B38 := gB_K (c := 19) B36 (Nat.le_trans (show 19 ≤ 36 by omega) E.2.1) (Nat.le_trans (show 6 * (19) ≤ 6 * 36 by omega) E.2.2)
  show gW Y (xK X (19)) S37 406 [(6, .int (iI (2 + (x % 9)))), (5, .int (iI ((runsF (pG P)) + (x % 99)))), (4, .int (iI ((pG P 0) + (x % 99)))), (3, .int (iI (runsF (pG P)))), (2, .int (iI (pG P 0))), (0, .ref (yA Y 72)), (1, .int (iI x))] [.int (iI (-9999001))]
  refine g_ldc (z := -9999001) (q := 408) B38 dL_refuses_406 rfl w573 (by decide) ?_
  refine g_icmp_ne (t := 708) (q := 411) B38 dL_refuses_408 (by decide) rfl ⟨by omega, by omega⟩ ⟨by omega, by omega⟩ (fun cq408 => absurd cq408 (by decide)) (fun cq408 => ?_)
  refine g_aload_n (q := 412) B38 dL_refuses_411 rfl 5 rfl ?_
  refine g_bipush (q := 414) B38 dL_refuses_412 rfl (by decide) ?_
  refine g_iload (q := 416) B38 dL_refuses_414 rfl 1 rfl ?_
  refine g_bipush (q := 418) B38 dL_refuses_416 rfl (by decide) ?_
  refine g_iconst (q := 419) B38 dL_refuses_418 rfl ?_
  refine g_callN (q := 422) (m1 := 1) (c2 := 20) (As := [.ref (yA Y 72), .int (iI 10), .int (iI ((runsF (pG P)) + (x % 99))), .int (iI 9), .int (iI 0)]) (st := []) B38 dL_refuses_419 rfl (k_give (Y := Y) (S := S37) hst A37 W ((runsF (pG P)) + (x % 99)) ⟨by omega, by omega⟩ 9 ⟨by omega, by omega⟩ 0 (x := -9999001) (hx := tv_1 (if_neg (by omega))) (P' := P) (hP := if_neg (ne1 (if_neg (by omega))))) eL_call w179 (by decide) rfl rfl (Nat.le_of_ble_eq_true rfl) (by omega) (Nat.le_trans (show 20 ≤ 36 by omega) E.2.1) (Nat.le_trans (show 6 * (20) ≤ 6 * 36 by omega) E.2.2) (fun v S39 hS39 => ?_)
  obtain ⟨rfl, A39, K39⟩ := hS39
  have T39 := kp_t T37 K39
  have B40 := gB_K (c := 20) B38 (Nat.le_trans (show 20 ≤ 36 by omega) E.2.1) (Nat.le_trans (show 6 * (20) ≤ 6 * 36 by omega) E.2.2)
  show gW Y (xK X (20)) S39 422 [(6, .int (iI (2 + (x % 9)))), (5, .int (iI ((runsF (pG P)) + (x % 99)))), (4, .int (iI ((pG P 0) + (x % 99)))), (3, .int (iI (runsF (pG P)))), (2, .int (iI (pG P 0))), (0, .ref (yA Y 72)), (1, .int (iI x))] [.int (iI (-9999001))]
  refine g_ldc (z := -9999001) (q := 424) B40 dL_refuses_422 rfl w573 (by decide) ?_
  refine g_icmp_ne (t := 708) (q := 427) B40 dL_refuses_424 (by decide) rfl ⟨by omega, by omega⟩ ⟨by omega, by omega⟩ (fun cq424 => absurd cq424 (by decide)) (fun cq424 => ?_)
  refine g_aload_n (q := 428) B40 dL_refuses_427 rfl 5 rfl ?_
  refine g_bipush (q := 430) B40 dL_refuses_428 rfl (by decide) ?_
  refine g_iconst (q := 431) B40 dL_refuses_430 rfl ?_
  refine g_iload_n (q := 432) B40 dL_refuses_431 rfl 6 rfl ?_
  refine g_iconst (q := 433) B40 dL_refuses_432 rfl ?_
  refine g_irem (q := 434) B40 dL_refuses_433 rfl (by omega) (by omega) (by omega) (by omega) ?_
  refine g_if_ne (t := 447) (q := 437) B40 dL_refuses_434 (by decide) rfl ⟨by omega, by omega⟩ (fun cq434 => ?_) (fun cq434 => absurd cq434 (by omega))
  refine g_iconst (q := 448) B40 dL_refuses_447 rfl ?_
  refine g_iload_n (q := 449) B40 dL_refuses_448 rfl 6 rfl ?_
  refine g_bipush (q := 451) B40 dL_refuses_449 rfl (by decide) ?_
  refine g_irem (q := 452) B40 dL_refuses_451 rfl (by omega) (by omega) (by omega) (by omega) ?_
  refine g_iadd (q := 453) B40 dL_refuses_452 rfl ?_
  refine g_iconst (q := 454) B40 dL_refuses_453 rfl ?_
  refine g_callN (q := 457) (m1 := 1) (c2 := 21) (As := [.ref (yA Y 72), .int (iI 10), .int (iI 0), .int (iI (2 + (x % 9))), .int (iI 0)]) (st := []) B40 dL_refuses_454 rfl (k_give (Y := Y) (S := S39) hst A39 W 0 ⟨by omega, by omega⟩ (2 + (x % 9)) ⟨by omega, by omega⟩ 0 (x := -9999002) (hx := tv_2 ((if_pos (by omega)).trans (if_neg (by omega)))) (P' := P) (hP := if_neg (ne2 ((if_pos (by omega)).trans (if_neg (by omega)))))) eL_call w179 (by decide) rfl rfl (Nat.le_of_ble_eq_true rfl) (by omega) (Nat.le_trans (show 21 ≤ 36 by omega) E.2.1) (Nat.le_trans (show 6 * (21) ≤ 6 * 36 by omega) E.2.2) (fun v S41 hS41 => ?_)
  obtain ⟨rfl, A41, K41⟩ := hS41
  have T41 := kp_t T39 K41
  have B42 := gB_K (c := 21) B40 (Nat.le_trans (show 21 ≤ 36 by omega) E.2.1) (Nat.le_trans (show 6 * (21) ≤ 6 * 36 by omega) E.2.2)
  show gW Y (xK X (21)) S41 457 [(6, .int (iI (2 + (x % 9)))), (5, .int (iI ((runsF (pG P)) + (x % 99)))), (4, .int (iI ((pG P 0) + (x % 99)))), (3, .int (iI (runsF (pG P)))), (2, .int (iI (pG P 0))), (0, .ref (yA Y 72)), (1, .int (iI x))] [.int (iI (-9999002))]
  refine g_ldc (z := -9999002) (q := 459) B42 dL_refuses_457 rfl w279 (by decide) ?_
  refine g_icmp_ne (t := 708) (q := 462) B42 dL_refuses_459 (by decide) rfl ⟨by omega, by omega⟩ ⟨by omega, by omega⟩ (fun cq459 => absurd cq459 (by decide)) (fun cq459 => ?_)
  refine g_aload_n (q := 463) B42 dL_refuses_462 rfl 5 rfl ?_
  refine g_bipush (q := 465) B42 dL_refuses_463 rfl (by decide) ?_
  refine g_iload (q := 467) B42 dL_refuses_465 rfl 1 rfl ?_
  refine g_iconst (q := 468) B42 dL_refuses_467 rfl ?_
  refine g_iconst (q := 469) B42 dL_refuses_468 rfl ?_
  refine g_callN (q := 472) (m1 := 1) (c2 := 22) (As := [.ref (yA Y 72), .int (iI 11), .int (iI ((runsF (pG P)) + (x % 99))), .int (iI 0), .int (iI 0)]) (st := []) B42 dL_refuses_469 rfl (k_take (Y := Y) (S := S41) hst A41 W ((runsF (pG P)) + (x % 99)) ⟨by omega, by omega⟩ 0 0 (x := -9999001) (hx := tv_1 (if_neg (by omega))) (P' := P) (hP := if_neg (ne1 (if_neg (by omega))))) eL_call w179 (by decide) rfl rfl (Nat.le_of_ble_eq_true rfl) (by omega) (Nat.le_trans (show 22 ≤ 36 by omega) E.2.1) (Nat.le_trans (show 6 * (22) ≤ 6 * 36 by omega) E.2.2) (fun v S43 hS43 => ?_)
  obtain ⟨rfl, A43, K43⟩ := hS43
  have T43 := kp_t T41 K43
  have B44 := gB_K (c := 22) B42 (Nat.le_trans (show 22 ≤ 36 by omega) E.2.1) (Nat.le_trans (show 6 * (22) ≤ 6 * 36 by omega) E.2.2)
  show gW Y (xK X (22)) S43 472 [(6, .int (iI (2 + (x % 9)))), (5, .int (iI ((runsF (pG P)) + (x % 99)))), (4, .int (iI ((pG P 0) + (x % 99)))), (3, .int (iI (runsF (pG P)))), (2, .int (iI (pG P 0))), (0, .ref (yA Y 72)), (1, .int (iI x))] [.int (iI (-9999001))]
  refine g_ldc (z := -9999001) (q := 474) B44 dL_refuses_472 rfl w573 (by decide) ?_
  refine g_icmp_ne (t := 708) (q := 477) B44 dL_refuses_474 (by decide) rfl ⟨by omega, by omega⟩ ⟨by omega, by omega⟩ (fun cq474 => absurd cq474 (by decide)) (fun cq474 => ?_)
  refine g_aload_n (q := 478) B44 dL_refuses_477 rfl 5 rfl ?_
  refine g_bipush (q := 480) B44 dL_refuses_478 rfl (by decide) ?_
  refine g_iload (q := 482) B44 dL_refuses_480 rfl 0 rfl ?_
  refine g_iconst (q := 483) B44 dL_refuses_482 rfl ?_
  refine g_iconst (q := 484) B44 dL_refuses_483 rfl ?_
  refine g_callN (q := 487) (m1 := 1) (c2 := 23) (As := [.ref (yA Y 72), .int (iI 12), .int (iI (2 + (x % 9))), .int (iI 0), .int (iI 0)]) (st := []) B44 dL_refuses_484 rfl (k_deal (Y := Y) (S := S43) hst A43 W (2 + (x % 9)) ⟨by omega, by omega⟩ 0 0 (x := -9999001) (hx := tv_1 (if_neg (by omega))) (P' := P) (hP := if_neg (ne1 (if_neg (by omega))))) eL_call w179 (by decide) rfl rfl (Nat.le_of_ble_eq_true rfl) (by omega) (Nat.le_trans (show 23 ≤ 36 by omega) E.2.1) (Nat.le_trans (show 6 * (23) ≤ 6 * 36 by omega) E.2.2) (fun v S45 hS45 => ?_)
  obtain ⟨rfl, A45, K45⟩ := hS45
  have T45 := kp_t T43 K45
  have B46 := gB_K (c := 23) B44 (Nat.le_trans (show 23 ≤ 36 by omega) E.2.1) (Nat.le_trans (show 6 * (23) ≤ 6 * 36 by omega) E.2.2)
  show gW Y (xK X (23)) S45 487 [(6, .int (iI (2 + (x % 9)))), (5, .int (iI ((runsF (pG P)) + (x % 99)))), (4, .int (iI ((pG P 0) + (x % 99)))), (3, .int (iI (runsF (pG P)))), (2, .int (iI (pG P 0))), (0, .ref (yA Y 72)), (1, .int (iI x))] [.int (iI (-9999001))]
  refine g_ldc (z := -9999001) (q := 489) B46 dL_refuses_487 rfl w573 (by decide) ?_
  refine g_icmp_ne (t := 708) (q := 492) B46 dL_refuses_489 (by decide) rfl ⟨by omega, by omega⟩ ⟨by omega, by omega⟩ (fun cq489 => absurd cq489 (by decide)) (fun cq489 => ?_)
  refine g_aload_n (q := 493) B46 dL_refuses_492 rfl 5 rfl ?_
  refine g_bipush (q := 495) B46 dL_refuses_493 rfl (by decide) ?_
  refine g_iload (q := 497) B46 dL_refuses_495 rfl 0 rfl ?_
  refine g_iconst (q := 498) B46 dL_refuses_497 rfl ?_
  refine g_iconst (q := 499) B46 dL_refuses_498 rfl ?_
  refine g_callN (q := 502) (m1 := 1) (c2 := 24) (As := [.ref (yA Y 72), .int (iI 14), .int (iI (2 + (x % 9))), .int (iI 0), .int (iI 0)]) (st := []) B46 dL_refuses_499 rfl (k_set (Y := Y) (S := S45) hst A45 W (2 + (x % 9)) ⟨by omega, by omega⟩ 0 0 (x := -9999002) (hx := tv_1 (if_neg (by omega))) (P' := P) (hP := if_neg (ne1 (if_neg (by omega))))) eL_call w179 (by decide) rfl rfl (Nat.le_of_ble_eq_true rfl) (by omega) (Nat.le_trans (show 24 ≤ 36 by omega) E.2.1) (Nat.le_trans (show 6 * (24) ≤ 6 * 36 by omega) E.2.2) (fun v S47 hS47 => ?_)
  obtain ⟨rfl, A47, K47⟩ := hS47
  have T47 := kp_t T45 K47
  have B48 := gB_K (c := 24) B46 (Nat.le_trans (show 24 ≤ 36 by omega) E.2.1) (Nat.le_trans (show 6 * (24) ≤ 6 * 36 by omega) E.2.2)
  show gW Y (xK X (24)) S47 502 [(6, .int (iI (2 + (x % 9)))), (5, .int (iI ((runsF (pG P)) + (x % 99)))), (4, .int (iI ((pG P 0) + (x % 99)))), (3, .int (iI (runsF (pG P)))), (2, .int (iI (pG P 0))), (0, .ref (yA Y 72)), (1, .int (iI x))] [.int (iI (-9999002))]
  refine g_ldc (z := -9999002) (q := 504) B48 dL_refuses_502 rfl w279 (by decide) ?_
  refine g_icmp_ne (t := 708) (q := 507) B48 dL_refuses_504 (by decide) rfl ⟨by omega, by omega⟩ ⟨by omega, by omega⟩ (fun cq504 => absurd cq504 (by decide)) (fun cq504 => ?_)
  refine g_aload_n (q := 508) B48 dL_refuses_507 rfl 5 rfl ?_
  refine g_bipush (q := 510) B48 dL_refuses_508 rfl (by decide) ?_
  refine g_iload (q := 512) B48 dL_refuses_510 rfl 0 rfl ?_
  refine g_iconst (q := 513) B48 dL_refuses_512 rfl ?_
  refine g_iconst (q := 514) B48 dL_refuses_513 rfl ?_
  refine g_callN (q := 517) (m1 := 1) (c2 := 25) (As := [.ref (yA Y 72), .int (iI 16), .int (iI (2 + (x % 9))), .int (iI 0), .int (iI 0)]) (st := []) B48 dL_refuses_514 rfl (k_fewest (Y := Y) (S := S47) hst A47 W (2 + (x % 9)) ⟨by omega, by omega⟩ 0 0 (x := -9999002) (hx := tv_1 (if_neg (by omega)))) eL_call w179 (by decide) rfl rfl (Nat.le_of_ble_eq_true rfl) (by omega) (Nat.le_trans (show 25 ≤ 36 by omega) E.2.1) (Nat.le_trans (show 6 * (25) ≤ 6 * 36 by omega) E.2.2) (fun v S49 hS49 => ?_)
  obtain ⟨rfl, A49, K49⟩ := hS49
  have T49 := kp_t T47 K49
  have B50 := gB_K (c := 25) B48 (Nat.le_trans (show 25 ≤ 36 by omega) E.2.1) (Nat.le_trans (show 6 * (25) ≤ 6 * 36 by omega) E.2.2)
  show gW Y (xK X (25)) S49 517 [(6, .int (iI (2 + (x % 9)))), (5, .int (iI ((runsF (pG P)) + (x % 99)))), (4, .int (iI ((pG P 0) + (x % 99)))), (3, .int (iI (runsF (pG P)))), (2, .int (iI (pG P 0))), (0, .ref (yA Y 72)), (1, .int (iI x))] [.int (iI (-9999002))]
  refine g_ldc (z := -9999002) (q := 519) B50 dL_refuses_517 rfl w279 (by decide) ?_
  refine g_icmp_ne (t := 708) (q := 522) B50 dL_refuses_519 (by decide) rfl ⟨by omega, by omega⟩ ⟨by omega, by omega⟩ (fun cq519 => absurd cq519 (by decide)) (fun cq519 => ?_)
  refine g_aload_n (q := 523) B50 dL_refuses_522 rfl 5 rfl ?_
  refine g_bipush (q := 525) B50 dL_refuses_523 rfl (by decide) ?_
  refine g_iconst (q := 526) B50 dL_refuses_525 rfl ?_
  refine g_iload_n (q := 527) B50 dL_refuses_526 rfl 6 rfl ?_
  refine g_bipush (q := 529) B50 dL_refuses_527 rfl (by decide) ?_
  refine g_irem (q := 530) B50 dL_refuses_529 rfl (by omega) (by omega) (by omega) (by omega) ?_
  refine g_isub (q := 531) B50 dL_refuses_530 rfl ?_
  refine g_iconst (q := 532) B50 dL_refuses_531 rfl ?_
  refine g_iconst (q := 533) B50 dL_refuses_532 rfl ?_
  refine g_callN (q := 536) (m1 := 1) (c2 := 26) (As := [.ref (yA Y 72), .int (iI 17), .int (iI ((-1) - (x % 9))), .int (iI 0), .int (iI 0)]) (st := []) B50 dL_refuses_533 rfl (k_divided (Y := Y) (S := S49) hst A49 W ((-1) - (x % 9)) ⟨by omega, by omega⟩ 0 0 (x := -9999002) (hx := tv_1 (if_neg (by omega)))) eL_call w179 (by decide) rfl rfl (Nat.le_of_ble_eq_true rfl) (by omega) (Nat.le_trans (show 26 ≤ 36 by omega) E.2.1) (Nat.le_trans (show 6 * (26) ≤ 6 * 36 by omega) E.2.2) (fun v S51 hS51 => ?_)
  obtain ⟨rfl, A51, K51⟩ := hS51
  have T51 := kp_t T49 K51
  have B52 := gB_K (c := 26) B50 (Nat.le_trans (show 26 ≤ 36 by omega) E.2.1) (Nat.le_trans (show 6 * (26) ≤ 6 * 36 by omega) E.2.2)
  show gW Y (xK X (26)) S51 536 [(6, .int (iI (2 + (x % 9)))), (5, .int (iI ((runsF (pG P)) + (x % 99)))), (4, .int (iI ((pG P 0) + (x % 99)))), (3, .int (iI (runsF (pG P)))), (2, .int (iI (pG P 0))), (0, .ref (yA Y 72)), (1, .int (iI x))] [.int (iI (-9999002))]
  refine g_ldc (z := -9999002) (q := 538) B52 dL_refuses_536 rfl w279 (by decide) ?_
  refine g_icmp_ne (t := 708) (q := 541) B52 dL_refuses_538 (by decide) rfl ⟨by omega, by omega⟩ ⟨by omega, by omega⟩ (fun cq538 => absurd cq538 (by decide)) (fun cq538 => ?_)
  refine g_aload_n (q := 542) B52 dL_refuses_541 rfl 5 rfl ?_
  refine g_bipush (q := 544) B52 dL_refuses_542 rfl (by decide) ?_
  refine g_iload_n (q := 545) B52 dL_refuses_544 rfl 6 rfl ?_
  refine g_iconst (q := 546) B52 dL_refuses_545 rfl ?_
  refine g_irem (q := 547) B52 dL_refuses_546 rfl (by omega) (by omega) (by omega) (by omega) ?_
  refine g_if_ne (t := 554) (q := 550) B52 dL_refuses_547 (by decide) rfl ⟨by omega, by omega⟩ (fun cq547 => ?_) (fun cq547 => absurd cq547 (by omega))
  refine g_iconst (q := 555) B52 dL_refuses_554 rfl ?_
  refine g_iload_n (q := 556) B52 dL_refuses_555 rfl 6 rfl ?_
  refine g_bipush (q := 558) B52 dL_refuses_556 rfl (by decide) ?_
  refine g_irem (q := 559) B52 dL_refuses_558 rfl (by omega) (by omega) (by omega) (by omega) ?_
  refine g_iadd (q := 560) B52 dL_refuses_559 rfl ?_
  refine g_iconst (q := 561) B52 dL_refuses_560 rfl ?_
  refine g_iconst (q := 562) B52 dL_refuses_561 rfl ?_
  refine g_callN (q := 565) (m1 := 1) (c2 := 27) (As := [.ref (yA Y 72), .int (iI 18), .int (iI (5 + (x % 9))), .int (iI 0), .int (iI 0)]) (st := []) B52 dL_refuses_562 rfl (k_leastGap (Y := Y) (S := S51) hst A51 W (5 + (x % 9)) ⟨by omega, by omega⟩ 0 0 (x := -9999002) (hx := tv_1 (if_neg (by omega)))) eL_call w179 (by decide) rfl rfl (Nat.le_of_ble_eq_true rfl) (by omega) (Nat.le_trans (show 27 ≤ 36 by omega) E.2.1) (Nat.le_trans (show 6 * (27) ≤ 6 * 36 by omega) E.2.2) (fun v S53 hS53 => ?_)
  obtain ⟨rfl, A53, K53⟩ := hS53
  have T53 := kp_t T51 K53
  have B54 := gB_K (c := 27) B52 (Nat.le_trans (show 27 ≤ 36 by omega) E.2.1) (Nat.le_trans (show 6 * (27) ≤ 6 * 36 by omega) E.2.2)
  show gW Y (xK X (27)) S53 565 [(6, .int (iI (2 + (x % 9)))), (5, .int (iI ((runsF (pG P)) + (x % 99)))), (4, .int (iI ((pG P 0) + (x % 99)))), (3, .int (iI (runsF (pG P)))), (2, .int (iI (pG P 0))), (0, .ref (yA Y 72)), (1, .int (iI x))] [.int (iI (-9999002))]
  refine g_ldc (z := -9999002) (q := 567) B54 dL_refuses_565 rfl w279 (by decide) ?_
  refine g_icmp_ne (t := 708) (q := 570) B54 dL_refuses_567 (by decide) rfl ⟨by omega, by omega⟩ ⟨by omega, by omega⟩ (fun cq567 => absurd cq567 (by decide)) (fun cq567 => ?_)
  refine g_aload_n (q := 571) B54 dL_refuses_570 rfl 5 rfl ?_
  refine g_bipush (q := 573) B54 dL_refuses_571 rfl (by decide) ?_
  refine g_iload (q := 575) B54 dL_refuses_573 rfl 1 rfl ?_
  refine g_bipush (q := 577) B54 dL_refuses_575 rfl (by decide) ?_
  refine g_iconst (q := 578) B54 dL_refuses_577 rfl ?_
  refine g_callN (q := 581) (m1 := 1) (c2 := 28) (As := [.ref (yA Y 72), .int (iI 19), .int (iI ((runsF (pG P)) + (x % 99))), .int (iI 9), .int (iI 0)]) (st := []) B54 dL_refuses_578 rfl (k_ifGiven (Y := Y) (S := S53) hst A53 W ((runsF (pG P)) + (x % 99)) ⟨by omega, by omega⟩ 9 ⟨by omega, by omega⟩ 0 (x := -9999001) (hx := tv_1 (if_neg (by omega)))) eL_call w179 (by decide) rfl rfl (Nat.le_of_ble_eq_true rfl) (by omega) (Nat.le_trans (show 28 ≤ 36 by omega) E.2.1) (Nat.le_trans (show 6 * (28) ≤ 6 * 36 by omega) E.2.2) (fun v S55 hS55 => ?_)
  obtain ⟨rfl, A55, K55⟩ := hS55
  have T55 := kp_t T53 K55
  have B56 := gB_K (c := 28) B54 (Nat.le_trans (show 28 ≤ 36 by omega) E.2.1) (Nat.le_trans (show 6 * (28) ≤ 6 * 36 by omega) E.2.2)
  show gW Y (xK X (28)) S55 581 [(6, .int (iI (2 + (x % 9)))), (5, .int (iI ((runsF (pG P)) + (x % 99)))), (4, .int (iI ((pG P 0) + (x % 99)))), (3, .int (iI (runsF (pG P)))), (2, .int (iI (pG P 0))), (0, .ref (yA Y 72)), (1, .int (iI x))] [.int (iI (-9999001))]
  refine g_ldc (z := -9999001) (q := 583) B56 dL_refuses_581 rfl w573 (by decide) ?_
  refine g_icmp_ne (t := 708) (q := 586) B56 dL_refuses_583 (by decide) rfl ⟨by omega, by omega⟩ ⟨by omega, by omega⟩ (fun cq583 => absurd cq583 (by decide)) (fun cq583 => ?_)
  refine g_aload_n (q := 587) B56 dL_refuses_586 rfl 5 rfl ?_
  refine g_bipush (q := 589) B56 dL_refuses_587 rfl (by decide) ?_
  refine g_iconst (q := 590) B56 dL_refuses_589 rfl ?_
  refine g_iload_n (q := 591) B56 dL_refuses_590 rfl 6 rfl ?_
  refine g_iconst (q := 592) B56 dL_refuses_591 rfl ?_
  refine g_irem (q := 593) B56 dL_refuses_592 rfl (by omega) (by omega) (by omega) (by omega) ?_
  refine g_if_ne (t := 606) (q := 596) B56 dL_refuses_593 (by decide) rfl ⟨by omega, by omega⟩ (fun cq593 => ?_) (fun cq593 => absurd cq593 (by omega))
  refine g_iconst (q := 607) B56 dL_refuses_606 rfl ?_
  refine g_iload_n (q := 608) B56 dL_refuses_607 rfl 6 rfl ?_
  refine g_bipush (q := 610) B56 dL_refuses_608 rfl (by decide) ?_
  refine g_irem (q := 611) B56 dL_refuses_610 rfl (by omega) (by omega) (by omega) (by omega) ?_
  refine g_iadd (q := 612) B56 dL_refuses_611 rfl ?_
  refine g_iconst (q := 613) B56 dL_refuses_612 rfl ?_
  refine g_callN (q := 616) (m1 := 1) (c2 := 29) (As := [.ref (yA Y 72), .int (iI 19), .int (iI 0), .int (iI (2 + (x % 9))), .int (iI 0)]) (st := []) B56 dL_refuses_613 rfl (k_ifGiven (Y := Y) (S := S55) hst A55 W 0 ⟨by omega, by omega⟩ (2 + (x % 9)) ⟨by omega, by omega⟩ 0 (x := -9999002) (hx := tv_2 ((if_pos (by omega)).trans (if_neg (by omega))))) eL_call w179 (by decide) rfl rfl (Nat.le_of_ble_eq_true rfl) (by omega) (Nat.le_trans (show 29 ≤ 36 by omega) E.2.1) (Nat.le_trans (show 6 * (29) ≤ 6 * 36 by omega) E.2.2) (fun v S57 hS57 => ?_)
  obtain ⟨rfl, A57, K57⟩ := hS57
  have T57 := kp_t T55 K57
  have B58 := gB_K (c := 29) B56 (Nat.le_trans (show 29 ≤ 36 by omega) E.2.1) (Nat.le_trans (show 6 * (29) ≤ 6 * 36 by omega) E.2.2)
  show gW Y (xK X (29)) S57 616 [(6, .int (iI (2 + (x % 9)))), (5, .int (iI ((runsF (pG P)) + (x % 99)))), (4, .int (iI ((pG P 0) + (x % 99)))), (3, .int (iI (runsF (pG P)))), (2, .int (iI (pG P 0))), (0, .ref (yA Y 72)), (1, .int (iI x))] [.int (iI (-9999002))]
  refine g_ldc (z := -9999002) (q := 618) B58 dL_refuses_616 rfl w279 (by decide) ?_
  refine g_icmp_ne (t := 708) (q := 621) B58 dL_refuses_618 (by decide) rfl ⟨by omega, by omega⟩ ⟨by omega, by omega⟩ (fun cq618 => absurd cq618 (by decide)) (fun cq618 => ?_)
  refine g_aload_n (q := 622) B58 dL_refuses_621 rfl 5 rfl ?_
  refine g_bipush (q := 624) B58 dL_refuses_622 rfl (by decide) ?_
  refine g_iconst (q := 625) B58 dL_refuses_624 rfl ?_
  refine g_iload_n (q := 626) B58 dL_refuses_625 rfl 6 rfl ?_
  refine g_bipush (q := 628) B58 dL_refuses_626 rfl (by decide) ?_
  refine g_irem (q := 629) B58 dL_refuses_628 rfl (by omega) (by omega) (by omega) (by omega) ?_
  refine g_iadd (q := 630) B58 dL_refuses_629 rfl ?_
  refine g_iconst (q := 631) B58 dL_refuses_630 rfl ?_
  refine g_iconst (q := 632) B58 dL_refuses_631 rfl ?_
  refine g_callN (q := 635) (m1 := 1) (c2 := 30) (As := [.ref (yA Y 72), .int (iI 20), .int (iI (2 + (x % 50))), .int (iI 0), .int (iI 0)]) (st := []) B58 dL_refuses_632 rfl (k_save (Y := Y) (S := S57) hst A57 W (2 + (x % 50)) ⟨by omega, by omega⟩ 0 0 (x := -9999001) (hx := tv_1 (if_neg (by omega))) (P' := P) (hP := if_neg (ne1 (if_neg (by omega))))) eL_call w179 (by decide) rfl rfl (Nat.le_of_ble_eq_true rfl) (by omega) (Nat.le_trans (show 30 ≤ 36 by omega) E.2.1) (Nat.le_trans (show 6 * (30) ≤ 6 * 36 by omega) E.2.2) (fun v S59 hS59 => ?_)
  obtain ⟨rfl, A59, K59⟩ := hS59
  have T59 := kp_t T57 K59
  have B60 := gB_K (c := 30) B58 (Nat.le_trans (show 30 ≤ 36 by omega) E.2.1) (Nat.le_trans (show 6 * (30) ≤ 6 * 36 by omega) E.2.2)
  show gW Y (xK X (30)) S59 635 [(6, .int (iI (2 + (x % 9)))), (5, .int (iI ((runsF (pG P)) + (x % 99)))), (4, .int (iI ((pG P 0) + (x % 99)))), (3, .int (iI (runsF (pG P)))), (2, .int (iI (pG P 0))), (0, .ref (yA Y 72)), (1, .int (iI x))] [.int (iI (-9999001))]
  refine g_ldc (z := -9999001) (q := 637) B60 dL_refuses_635 rfl w573 (by decide) ?_
  refine g_icmp_ne (t := 708) (q := 640) B60 dL_refuses_637 (by decide) rfl ⟨by omega, by omega⟩ ⟨by omega, by omega⟩ (fun cq637 => absurd cq637 (by decide)) (fun cq637 => ?_)
  refine g_aload_n (q := 641) B60 dL_refuses_640 rfl 5 rfl ?_
  refine g_bipush (q := 643) B60 dL_refuses_641 rfl (by decide) ?_
  refine g_iconst (q := 644) B60 dL_refuses_643 rfl ?_
  refine g_iload_n (q := 645) B60 dL_refuses_644 rfl 6 rfl ?_
  refine g_bipush (q := 647) B60 dL_refuses_645 rfl (by decide) ?_
  refine g_irem (q := 648) B60 dL_refuses_647 rfl (by omega) (by omega) (by omega) (by omega) ?_
  refine g_isub (q := 649) B60 dL_refuses_648 rfl ?_
  refine g_iconst (q := 650) B60 dL_refuses_649 rfl ?_
  refine g_iconst (q := 651) B60 dL_refuses_650 rfl ?_
  refine g_callN (q := 654) (m1 := 1) (c2 := 31) (As := [.ref (yA Y 72), .int (iI 21), .int (iI ((-1) - (x % 9))), .int (iI 0), .int (iI 0)]) (st := []) B60 dL_refuses_651 rfl (k_restore (Y := Y) (S := S59) hst A59 W ((-1) - (x % 9)) ⟨by omega, by omega⟩ 0 0 (x := -9999001) (hx := tv_1 (if_neg (by omega))) (P' := P) (hP := if_neg (ne1 (if_neg (by omega))))) eL_call w179 (by decide) rfl rfl (Nat.le_of_ble_eq_true rfl) (by omega) (Nat.le_trans (show 31 ≤ 36 by omega) E.2.1) (Nat.le_trans (show 6 * (31) ≤ 6 * 36 by omega) E.2.2) (fun v S61 hS61 => ?_)
  obtain ⟨rfl, A61, K61⟩ := hS61
  have T61 := kp_t T59 K61
  have B62 := gB_K (c := 31) B60 (Nat.le_trans (show 31 ≤ 36 by omega) E.2.1) (Nat.le_trans (show 6 * (31) ≤ 6 * 36 by omega) E.2.2)
  show gW Y (xK X (31)) S61 654 [(6, .int (iI (2 + (x % 9)))), (5, .int (iI ((runsF (pG P)) + (x % 99)))), (4, .int (iI ((pG P 0) + (x % 99)))), (3, .int (iI (runsF (pG P)))), (2, .int (iI (pG P 0))), (0, .ref (yA Y 72)), (1, .int (iI x))] [.int (iI (-9999001))]
  refine g_ldc (z := -9999001) (q := 656) B62 dL_refuses_654 rfl w573 (by decide) ?_
  refine g_icmp_ne (t := 708) (q := 659) B62 dL_refuses_656 (by decide) rfl ⟨by omega, by omega⟩ ⟨by omega, by omega⟩ (fun cq656 => absurd cq656 (by decide)) (fun cq656 => ?_)
  refine g_aload_n (q := 660) B62 dL_refuses_659 rfl 5 rfl ?_
  refine g_iconst (q := 661) B62 dL_refuses_660 rfl ?_
  refine g_lconst (z := 0) (q := 662) B62 dL_refuses_661 rfl rfl ?_
  refine g_callW (q := 665) (c2 := 32) (As := [.ref (yA Y 72), .int (iI 0), .long (lI 0)]) (st := []) B62 dL_refuses_662 rfl (k_runScript (Y := Y) (S := S61) hst A61 W 0 0 ⟨by omega, by omega⟩ ⟨by omega, by omega⟩  (x := -9999002) (hx := tv_1 (if_neg (by omega)))) eL_doScript w852 (by decide) rfl rfl (Nat.le_of_ble_eq_true rfl) (by omega) (Nat.le_trans (show 32 ≤ 36 by omega) E.2.1) (Nat.le_trans (show 6 * (32) ≤ 6 * 36 by omega) E.2.2) (fun v S63 hS63 => ?_)
  obtain ⟨rfl, A63, K63⟩ := hS63
  have T63 := kp_t T61 K63
  have B64 := gB_K (c := 32) B62 (Nat.le_trans (show 32 ≤ 36 by omega) E.2.1) (Nat.le_trans (show 6 * (32) ≤ 6 * 36 by omega) E.2.2)
  show gW Y (xK X (32)) S63 665 [(6, .int (iI (2 + (x % 9)))), (5, .int (iI ((runsF (pG P)) + (x % 99)))), (4, .int (iI ((pG P 0) + (x % 99)))), (3, .int (iI (runsF (pG P)))), (2, .int (iI (pG P 0))), (0, .ref (yA Y 72)), (1, .int (iI x))] [.int (iI (-9999002))]
  refine g_ldc (z := -9999002) (q := 667) B64 dL_refuses_665 rfl w279 (by decide) ?_
  refine g_icmp_ne (t := 708) (q := 670) B64 dL_refuses_667 (by decide) rfl ⟨by omega, by omega⟩ ⟨by omega, by omega⟩ (fun cq667 => absurd cq667 (by decide)) (fun cq667 => ?_)
  refine g_aload_n (q := 671) B64 dL_refuses_670 rfl 5 rfl ?_
  refine g_iconst (q := 672) B64 dL_refuses_671 rfl ?_
  refine g_ldc2 (z := 100000) (q := 675) B64 dL_refuses_672 rfl w886 (by decide) ?_
  refine g_iload_n (q := 676) B64 dL_refuses_675 rfl 6 rfl ?_
  refine g_i2l (q := 677) B64 dL_refuses_676 rfl ⟨by omega, by omega⟩ ?_
  refine g_ladd (q := 678) B64 dL_refuses_677 rfl ?_
  refine g_callW (q := 681) (c2 := 33) (As := [.ref (yA Y 72), .int (iI 1), .long (lI (100000 + x))]) (st := []) B64 dL_refuses_678 rfl (k_runScript (Y := Y) (S := S63) hst A63 W 1 (100000 + x) ⟨by omega, by omega⟩ ⟨by omega, by omega⟩  (x := -9999002) (hx := tv_1 (if_neg (fun z => by have h5 : pw5 (Int.toNat 1) = 100000 := rfl; omega)))) eL_doScript w852 (by decide) rfl rfl (Nat.le_of_ble_eq_true rfl) (by omega) (Nat.le_trans (show 33 ≤ 36 by omega) E.2.1) (Nat.le_trans (show 6 * (33) ≤ 6 * 36 by omega) E.2.2) (fun v S65 hS65 => ?_)
  obtain ⟨rfl, A65, K65⟩ := hS65
  have T65 := kp_t T63 K65
  have B66 := gB_K (c := 33) B64 (Nat.le_trans (show 33 ≤ 36 by omega) E.2.1) (Nat.le_trans (show 6 * (33) ≤ 6 * 36 by omega) E.2.2)
  show gW Y (xK X (33)) S65 681 [(6, .int (iI (2 + (x % 9)))), (5, .int (iI ((runsF (pG P)) + (x % 99)))), (4, .int (iI ((pG P 0) + (x % 99)))), (3, .int (iI (runsF (pG P)))), (2, .int (iI (pG P 0))), (0, .ref (yA Y 72)), (1, .int (iI x))] [.int (iI (-9999002))]
  refine g_ldc (z := -9999002) (q := 683) B66 dL_refuses_681 rfl w279 (by decide) ?_
  refine g_icmp_ne (t := 708) (q := 686) B66 dL_refuses_683 (by decide) rfl ⟨by omega, by omega⟩ ⟨by omega, by omega⟩ (fun cq683 => absurd cq683 (by decide)) (fun cq683 => ?_)
  refine g_aload_n (q := 687) B66 dL_refuses_686 rfl 5 rfl ?_
  refine g_iload_n (q := 688) B66 dL_refuses_687 rfl 6 rfl ?_
  refine g_i2l (q := 689) B66 dL_refuses_688 rfl ⟨by omega, by omega⟩ ?_
  refine g_bipush (q := 691) B66 dL_refuses_689 rfl (by decide) ?_
  refine g_iload_n (q := 692) B66 dL_refuses_691 rfl 6 rfl ?_
  refine g_bipush (q := 694) B66 dL_refuses_692 rfl (by decide) ?_
  refine g_irem (q := 695) B66 dL_refuses_694 rfl (by omega) (by omega) (by omega) (by omega) ?_
  refine g_iadd (q := 696) B66 dL_refuses_695 rfl ?_
  refine g_callW (q := 699) (c2 := 34) (As := [.ref (yA Y 72), .long (lI x), .int (iI (61 + (x % 9)))]) (st := []) B66 dL_refuses_696 rfl (k_simulate (Y := Y) (S := S65) hst A65 W x (61 + (x % 9)) ⟨by omega, by omega⟩ ⟨by omega, by omega⟩  (x := -9999002) (hx := tv_1 (if_neg (by omega)))) eL_doSimulate w887 (by decide) rfl rfl (Nat.le_of_ble_eq_true rfl) (by omega) (Nat.le_trans (show 34 ≤ 36 by omega) E.2.1) (Nat.le_trans (show 6 * (34) ≤ 6 * 36 by omega) E.2.2) (fun v S67 hS67 => ?_)
  obtain ⟨rfl, A67, K67⟩ := hS67
  have T67 := kp_t T65 K67
  have B68 := gB_K (c := 34) B66 (Nat.le_trans (show 34 ≤ 36 by omega) E.2.1) (Nat.le_trans (show 6 * (34) ≤ 6 * 36 by omega) E.2.2)
  show gW Y (xK X (34)) S67 699 [(6, .int (iI (2 + (x % 9)))), (5, .int (iI ((runsF (pG P)) + (x % 99)))), (4, .int (iI ((pG P 0) + (x % 99)))), (3, .int (iI (runsF (pG P)))), (2, .int (iI (pG P 0))), (0, .ref (yA Y 72)), (1, .int (iI x))] [.int (iI (-9999002))]
  refine g_ldc (z := -9999002) (q := 701) B68 dL_refuses_699 rfl w279 (by decide) ?_
  refine g_icmp_ne (t := 708) (q := 704) B68 dL_refuses_701 (by decide) rfl ⟨by omega, by omega⟩ ⟨by omega, by omega⟩ (fun cq701 => absurd cq701 (by decide)) (fun cq701 => ?_)
  refine g_iconst (q := 705) B68 dL_refuses_704 rfl ?_
  refine g_goto (q := 709) B68 dL_refuses_705 (by decide) ?_
  refine g_istore (q := 711) B68 dL_refuses_709 rfl (by decide) (L' := [(7, .int (iI 1)), (6, .int (iI (2 + (x % 9)))), (5, .int (iI ((runsF (pG P)) + (x % 99)))), (4, .int (iI ((pG P 0) + (x % 99)))), (3, .int (iI (runsF (pG P)))), (2, .int (iI (pG P 0))), (0, .ref (yA Y 72)), (1, .int (iI x))]) rfl ?_
  refine g_iload (q := 713) B68 dL_refuses_711 rfl 0 rfl ?_
  refine g_if_eq (t := 740) (q := 716) B68 dL_refuses_713 (by decide) rfl ⟨by omega, by omega⟩ (fun cq713 => absurd cq713 (by decide)) (fun cq713 => ?_)
  refine g_iload_n (q := 717) B68 dL_refuses_716 rfl 5 rfl ?_
  refine g_bipush (q := 719) B68 dL_refuses_717 rfl (by decide) ?_
  refine g_icmp_lt (t := 736) (q := 722) B68 dL_refuses_719 (by decide) rfl ⟨by omega, by omega⟩ ⟨by omega, by omega⟩ (fun cq719 => ?_) (fun cq719 => ?_)
  · refine g_iconst (q := 737) B68 dL_refuses_736 rfl ?_
    refine g_goto (q := 741) B68 dL_refuses_737 (by decide) ?_
    exact gn_zret B68 E (by omega) dL_refuses_741 rfl (by decide) ⟨rfl, A67, T67⟩
  · refine g_aload_n (q := 723) B68 dL_refuses_722 rfl 6 rfl ?_
    refine g_bipush (q := 725) B68 dL_refuses_723 rfl (by decide) ?_
    refine g_iconst (q := 726) B68 dL_refuses_725 rfl ?_
    refine g_iconst (q := 727) B68 dL_refuses_726 rfl ?_
    refine g_iconst (q := 728) B68 dL_refuses_727 rfl ?_
    refine g_callN (q := 731) (m1 := 1) (c2 := 35) (As := [.ref (yA Y 72), .int (iI 7), .int (iI 0), .int (iI 1), .int (iI 0)]) (st := []) B68 dL_refuses_728 rfl (k_jewel (Y := Y) (S := S67) hst A67 W 0 ⟨by omega, by omega⟩ 1 ⟨by omega, by omega⟩ 0 (x := -9999003) (hx := tv_3 ((if_pos (by decide)).trans ((if_pos (by decide)).trans (if_neg (by omega))))) (P' := P) (hP := if_neg (ne3 ((if_pos (by decide)).trans ((if_pos (by decide)).trans (if_neg (by omega))))))) eL_call w179 (by decide) rfl rfl (Nat.le_of_ble_eq_true rfl) (by omega) (Nat.le_trans (show 35 ≤ 36 by omega) E.2.1) (Nat.le_trans (show 6 * (35) ≤ 6 * 36 by omega) E.2.2) (fun v S69 hS69 => ?_)
    obtain ⟨rfl, A69, K69⟩ := hS69
    have T69 := kp_t T67 K69
    have B70 := gB_K (c := 35) B68 (Nat.le_trans (show 35 ≤ 36 by omega) E.2.1) (Nat.le_trans (show 6 * (35) ≤ 6 * 36 by omega) E.2.2)
    show gW Y (xK X (35)) S69 731 [(7, .int (iI 1)), (6, .int (iI (2 + (x % 9)))), (5, .int (iI ((runsF (pG P)) + (x % 99)))), (4, .int (iI ((pG P 0) + (x % 99)))), (3, .int (iI (runsF (pG P)))), (2, .int (iI (pG P 0))), (0, .ref (yA Y 72)), (1, .int (iI x))] [.int (iI (-9999003))]
    refine g_ldc (z := -9999003) (q := 733) B70 dL_refuses_731 rfl w280 (by decide) ?_
    refine g_icmp_ne (t := 740) (q := 736) B70 dL_refuses_733 (by decide) rfl ⟨by omega, by omega⟩ ⟨by omega, by omega⟩ (fun cq733 => absurd cq733 (by decide)) (fun cq733 => ?_)
    refine g_iconst (q := 737) B70 dL_refuses_736 rfl ?_
    refine g_goto (q := 741) B70 dL_refuses_737 (by decide) ?_
    exact gn_zret B70 E (by omega) dL_refuses_741 rfl (by decide) ⟨rfl, A69, T69⟩
theorem c_refuses {Y : gY} {l : Launch} {S : SS} {P : PT} (hst : l.stackTraces = false) (A0 : PK P S) (W : WF0 P) (C : CH 4 P) (x : Int) (hx0 : 0 ≤ x ∧ x < 100000) : gN Y l mL_refuses 36 S [.ref (yA Y 72), .int (iI x)] (qP 1 P S) := by
  rcases (show x % 2 = 0 ∨ x % 2 = 1 by omega) with h | h
  · exact c_refusesE hst A0 W C x hx0 h
  · exact c_refusesO hst A0 W C x hx0 h
