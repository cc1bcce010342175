/-! DIVIDES -/
theorem cd_brk0 {g : Int → Int} {j : Int} (h0 : 0 ≤ j) (h1 : j < g 0) : cd_breakAt g j = 0 := if_pos (by omega)
set_option maxHeartbeats 16000000 in
theorem c_divides {Y : gY} {l : Launch} {S : SS} {P : PT} (hst : l.stackTraces = false) (A0 : PK P S) (D0 : PK P (sS S)) (V : OK P) (x : Int) (hx0 : 0 ≤ x ∧ x < 2147483648) : gN Y l mL_divides 40 S [.ref (yA Y 72), .ref (yA Y 172), .int (iI x)] (fun v S' => v = some (.int (iI 1)) ∧ ∃ P' : PT, OK P' ∧ PK P' S' ∧ PK P' (sS S')) := by
  refine gN_of (by decide) (Nat.le_of_ble_eq_true rfl) ?_
  intro X hXl B E
  subst hXl
  obtain ⟨W, C⟩ := id V
  have hb := pic_in W C
  have hw := W.1
  have hn1 : 1 ≤ pG P 0 := by omega
  have m1 := md_in x hn1
  obtain ⟨oth, hoth⟩ : ∃ r : Int, x % (pG P 0) = r := ⟨_, rfl⟩
  rw [hoth] at m1
  obtain ⟨fw, hfw⟩ : ∃ z : Int, fewF (pG P) = z := ⟨_, rfl⟩
  have fr := few_in (pG P)
  rw [hfw] at fr
  obtain ⟨sc, hsc⟩ : ∃ z : Int, divF (pG P) 1 = z := ⟨_, rfl⟩
  obtain ⟨bs, hbs⟩ : ∃ z : Int, (bkG (pG P) (pG P 0).toNat).1 = z := ⟨_, rfl⟩
  have r8 := bkG_in (pG P) (pG P 0).toNat
  rw [hbs] at r8
  have bb := best_brk hw hn1 hbs
  rw [hfw] at bb
  obtain ⟨stt, hstt⟩ : ∃ z : Int, pG P 1 = z := ⟨_, rfl⟩
  have r4 := hw.2.1
  rw [hstt] at r4
  have rsc : 2 ≤ fw → sc = wyF (pG P) 1 ∧ 1 ≤ sc ∧ sc ≤ 16 := fun z => by
    have h1 : divF (pG P) 1 = wyF (pG P) 1 := if_pos (by rw [hfw]; omega)
    have h2 := wyF_in hw (c := 1) (by decide) (by rw [hfw]; omega)
    rw [← hsc, h1]
    exact ⟨rfl, h2.1.1, by omega⟩
  have rsn : ¬ 2 ≤ fw → sc = -1 := fun z => by
    rw [← hsc]
    exact if_neg (by rw [hfw]; omega)
  have rsa : -1 ≤ sc ∧ sc ≤ 16 := by
    by_cases z : 2 ≤ fw
    · have := rsc z; omega
    · have := rsn z; omega
  show gW Y (xK X 0) S 0 [(0, .ref (yA Y 72)), (1, .ref (yA Y 172)), (2, .int (iI x))] []
  refine g_aload_n (q := 1) B dL_divides_0 rfl 0 rfl ?_
  refine g_bipush (q := 3) B dL_divides_1 rfl (by decide) ?_
  refine g_iconst (q := 4) B dL_divides_3 rfl ?_
  refine g_iconst (q := 5) B dL_divides_4 rfl ?_
  refine g_iconst (q := 6) B dL_divides_5 rfl ?_
  refine g_callN (q := 9) (m1 := 1) (c2 := 1) (As := [.ref (yA Y 72), .int (iI 16), .int (iI 0), .int (iI 0), .int (iI 0)]) (st := []) B dL_divides_6 rfl (k_fewest (Y := Y) (S := S) hst A0 W 0 ⟨by omega, by omega⟩ 0 0 (x := fw) (hx := hfw)) eL_call w179 (by decide) rfl rfl (Nat.le_of_ble_eq_true rfl) (by omega) (Nat.le_trans (show 1 ≤ 40 by omega) E.2.1) (Nat.le_trans (show 6 * (1) ≤ 6 * 40 by omega) E.2.2) (fun v S1 hS1 => ?_)
  obtain ⟨rfl, A1, K1⟩ := hS1
  have D1 := PK_o2 D0 K1
  have B2 := gB_K (c := 1) B (Nat.le_trans (show 1 ≤ 40 by omega) E.2.1) (Nat.le_trans (show 6 * (1) ≤ 6 * 40 by omega) E.2.2)
  show gW Y (xK X (1)) S1 9 [(0, .ref (yA Y 72)), (1, .ref (yA Y 172)), (2, .int (iI x))] [.int (iI fw)]
  refine g_istore_n (q := 10) B2 dL_divides_9 rfl (by decide) (L' := [(3, .int (iI fw)), (0, .ref (yA Y 72)), (1, .ref (yA Y 172)), (2, .int (iI x))]) rfl ?_
  refine g_aload_n (q := 11) B2 dL_divides_10 rfl 1 rfl ?_
  refine g_bipush (q := 13) B2 dL_divides_11 rfl (by decide) ?_
  refine g_iconst (q := 14) B2 dL_divides_13 rfl ?_
  refine g_iconst (q := 15) B2 dL_divides_14 rfl ?_
  refine g_iconst (q := 16) B2 dL_divides_15 rfl ?_
  refine g_callN (q := 19) (m1 := 1) (c2 := 2) (As := [.ref (yA Y 72), .int (iI 17), .int (iI 1), .int (iI 0), .int (iI 0)]) (st := []) B2 dL_divides_16 rfl (k_divided (Y := Y) (S := S1) hst A1 W 1 ⟨by omega, by omega⟩ 0 0 (x := sc) (hx := hsc)) eL_call w179 (by decide) rfl rfl (Nat.le_of_ble_eq_true rfl) (by omega) (Nat.le_trans (show 2 ≤ 40 by omega) E.2.1) (Nat.le_trans (show 6 * (2) ≤ 6 * 40 by omega) E.2.2) (fun v S3 hS3 => ?_)
  obtain ⟨rfl, A3, K3⟩ := hS3
  have D3 := PK_o2 D1 K3
  have B4 := gB_K (c := 2) B2 (Nat.le_trans (show 2 ≤ 40 by omega) E.2.1) (Nat.le_trans (show 6 * (2) ≤ 6 * 40 by omega) E.2.2)
  show gW Y (xK X (2)) S3 19 [(3, .int (iI fw)), (0, .ref (yA Y 72)), (1, .ref (yA Y 172)), (2, .int (iI x))] [.int (iI sc)]
  refine g_istore (q := 21) B4 dL_divides_19 rfl (by decide) (L' := [(4, .int (iI sc)), (3, .int (iI fw)), (0, .ref (yA Y 72)), (1, .ref (yA Y 172)), (2, .int (iI x))]) rfl ?_
  refine g_aload_n (q := 22) B4 dL_divides_21 rfl 2 rfl ?_
  refine g_iconst (q := 23) B4 dL_divides_22 rfl ?_
  refine g_iconst (q := 24) B4 dL_divides_23 rfl ?_
  refine g_iconst (q := 25) B4 dL_divides_24 rfl ?_
  refine g_iconst (q := 26) B4 dL_divides_25 rfl ?_
  refine g_callN (q := 29) (m1 := 1) (c2 := 3) (As := [.ref (yA Y 72), .int (iI 2), .int (iI 0), .int (iI 0), .int (iI 0)]) (st := []) B4 dL_divides_26 rfl (k_about (Y := Y) (S := S3) hst A3 W 0 ⟨by omega, by omega⟩ 0 0 (x := pG P 0) (hx := rfl)) eL_call w179 (by decide) rfl rfl (Nat.le_of_ble_eq_true rfl) (by omega) (Nat.le_trans (show 3 ≤ 40 by omega) E.2.1) (Nat.le_trans (show 6 * (3) ≤ 6 * 40 by omega) E.2.2) (fun v S5 hS5 => ?_)
  obtain ⟨rfl, A5, K5⟩ := hS5
  have D5 := PK_o2 D3 K5
  have B6 := gB_K (c := 3) B4 (Nat.le_trans (show 3 ≤ 40 by omega) E.2.1) (Nat.le_trans (show 6 * (3) ≤ 6 * 40 by omega) E.2.2)
  show gW Y (xK X (3)) S5 29 [(4, .int (iI sc)), (3, .int (iI fw)), (0, .ref (yA Y 72)), (1, .ref (yA Y 172)), (2, .int (iI x))] [.int (iI (pG P 0))]
  refine g_istore (q := 31) B6 dL_divides_29 rfl (by decide) (L' := [(5, .int (iI (pG P 0))), (4, .int (iI sc)), (3, .int (iI fw)), (0, .ref (yA Y 72)), (1, .ref (yA Y 172)), (2, .int (iI x))]) rfl ?_
  refine g_aload_n (q := 32) B6 dL_divides_31 rfl 3 rfl ?_
  refine g_callV (n := 72) (ty := tyX7) (q := 35) (As := []) (st := []) B6 dL_divides_32 rfl (k_bestBreak (Y := Y) (l := xL X) (S := S5) A5 W) eX7_bestBreak w943 (by decide) rfl rfl cls5 rfl rfl (Nat.le_of_ble_eq_true rfl) (fun v S7 hS7 => ?_)
  obtain ⟨rfl, A7, K7⟩ := hS7
  have D7 := PK_o2 D5 K7
  show gW Y (xK X (3)) S7 35 [(5, .int (iI (pG P 0))), (4, .int (iI sc)), (3, .int (iI fw)), (0, .ref (yA Y 72)), (1, .ref (yA Y 172)), (2, .int (iI x))] [.int (iI ((bkG (pG P) (pG P 0).toNat).1))]
  refine g_eqT (st' := [.int (iI bs)]) (by rw [hbs]) ?_
  refine g_istore (q := 37) B6 dL_divides_35 rfl (by decide) (L' := [(6, .int (iI bs)), (5, .int (iI (pG P 0))), (4, .int (iI sc)), (3, .int (iI fw)), (0, .ref (yA Y 72)), (1, .ref (yA Y 172)), (2, .int (iI x))]) rfl ?_
  refine g_aload_n (q := 38) B6 dL_divides_37 rfl 4 rfl ?_
  refine g_iconst (q := 39) B6 dL_divides_38 rfl ?_
  refine g_iconst (q := 40) B6 dL_divides_39 rfl ?_
  refine g_iconst (q := 41) B6 dL_divides_40 rfl ?_
  refine g_iconst (q := 42) B6 dL_divides_41 rfl ?_
  refine g_callN (q := 45) (m1 := 1) (c2 := 4) (As := [.ref (yA Y 72), .int (iI 2), .int (iI 1), .int (iI 0), .int (iI 0)]) (st := []) B6 dL_divides_42 rfl (k_about (Y := Y) (S := S7) hst A7 W 1 ⟨by omega, by omega⟩ 0 0 (x := stt) (hx := hstt)) eL_call w179 (by decide) rfl rfl (Nat.le_of_ble_eq_true rfl) (by omega) (Nat.le_trans (show 4 ≤ 40 by omega) E.2.1) (Nat.le_trans (show 6 * (4) ≤ 6 * 40 by omega) E.2.2) (fun v S8 hS8 => ?_)
  obtain ⟨rfl, A8, K8⟩ := hS8
  have D8 := PK_o2 D7 K8
  have B9 := gB_K (c := 4) B6 (Nat.le_trans (show 4 ≤ 40 by omega) E.2.1) (Nat.le_trans (show 6 * (4) ≤ 6 * 40 by omega) E.2.2)
  show gW Y (xK X (4)) S8 45 [(6, .int (iI bs)), (5, .int (iI (pG P 0))), (4, .int (iI sc)), (3, .int (iI fw)), (0, .ref (yA Y 72)), (1, .ref (yA Y 172)), (2, .int (iI x))] [.int (iI stt)]
  refine g_istore (q := 47) B9 dL_divides_45 rfl (by decide) (L' := [(7, .int (iI stt)), (6, .int (iI bs)), (5, .int (iI (pG P 0))), (4, .int (iI sc)), (3, .int (iI fw)), (0, .ref (yA Y 72)), (1, .ref (yA Y 172)), (2, .int (iI x))]) rfl ?_
  refine g_iconst (q := 48) B9 dL_divides_47 rfl ?_
  refine g_istore (q := 50) B9 dL_divides_48 rfl (by decide) (L' := [(8, .int (iI 1)), (7, .int (iI stt)), (6, .int (iI bs)), (5, .int (iI (pG P 0))), (4, .int (iI sc)), (3, .int (iI fw)), (0, .ref (yA Y 72)), (1, .ref (yA Y 172)), (2, .int (iI x))]) rfl ?_
  refine g_iload_n (q := 51) B9 dL_divides_50 rfl 5 rfl ?_
  refine g_iconst (q := 52) B9 dL_divides_51 rfl ?_
  refine g_icmp_ne (t := 93) (q := 55) B9 dL_divides_52 (by decide) rfl ⟨by omega, by omega⟩ ⟨by omega, by omega⟩ (fun cq52 => ?_) (fun cq52 => ?_)
  · have hno : ¬ fw = -1 := by omega
    have cdv : cd_dv (fewF (pG P)) = 0 := if_neg (by rw [hfw]; exact hno)
    have hfc : (((fewF (pG P)).toNat : Nat) : Int) = fw := by rw [hfw]; omega
    obtain ⟨D, hD⟩ : ∃ z : Int → Int, dealG (lsT (pG P) (wyF (pG P)) (fewF (pG P)).toNat) 0 = z := ⟨_, rfl⟩
    have dg := deal_good hw hn1 (wy_good hw (by rw [hfw]; omega)) (by omega) hD
    obtain ⟨P1, hP1⟩ : ∃ z : PT, pPush P (dealG (lsT (pG P) (wyF (pG P)) (fewF (pG P)).toNat) 0) = z := ⟨_, rfl⟩
    have e1 : pG P1 = D := by rw [← hP1]; exact hD
    have nD : dealG (lsT (pG P) (wyF (pG P)) (fewF (pG P)).toNat) 0 0 = pG P 0 := by rw [hD]; exact dg.2.1
    have wD : wf (dealG (lsT (pG P) (wyF (pG P)) (fewF (pG P)).toNat) 0) := by rw [hD]; exact dg.1
    have V1 : OK P1 := by rw [← hP1]; exact ok_push0 V wD nD
    have k1 : 0 < pK P1 := by rw [← hP1]; exact pK_push P _ W
    have k1b := V1.1.2.2.1
    obtain ⟨Pa, hPa⟩ : ∃ z : PT, pUndo P1 = z := ⟨_, rfl⟩
    have ea : pG Pa = pG P := by rw [← hPa, ← hP1]; exact un_g P _ W
    have Va : OK Pa := by rw [← hPa, ← hP1]; exact ok_un V wD nD
    refine g_iload (q := 95) B9 dL_divides_93 rfl 2 rfl ?_
    refine g_iconst (q := 96) B9 dL_divides_95 rfl ?_
    refine g_icmp_eq (t := 212) (q := 99) B9 dL_divides_96 (by decide) rfl ⟨by omega, by omega⟩ ⟨by omega, by omega⟩ (fun cq96 => absurd cq96 (by exact fun z => hno (bb.1 z))) (fun cq96 => ?_)
    refine g_aload_n (q := 100) B9 dL_divides_99 rfl 6 rfl ?_
    refine g_bipush (q := 102) B9 dL_divides_100 rfl (by decide) ?_
    refine g_iconst (q := 103) B9 dL_divides_102 rfl ?_
    refine g_iconst (q := 104) B9 dL_divides_103 rfl ?_
    refine g_iconst (q := 105) B9 dL_divides_104 rfl ?_
    refine g_callN (q := 108) (m1 := 1) (c2 := 5) (As := [.ref (yA Y 72), .int (iI 13), .int (iI 0), .int (iI 0), .int (iI 0)]) (st := []) B9 dL_divides_105 rfl (k_divide (Y := Y) (S := S8) hst A8 W  0 0 0 (x := fw) (hx := (tv_0 cdv).trans hfw) (P' := P1) (hP := (if_pos cdv).trans hP1)) eL_call w179 (by decide) rfl rfl (Nat.le_of_ble_eq_true rfl) (by omega) (Nat.le_trans (show 5 ≤ 40 by omega) E.2.1) (Nat.le_trans (show 6 * (5) ≤ 6 * 40 by omega) E.2.2) (fun v S10 hS10 => ?_)
    obtain ⟨rfl, A10, K10⟩ := hS10
    have D10 := PK_o2 D8 K10
    have B11 := gB_K (c := 5) B9 (Nat.le_trans (show 5 ≤ 40 by omega) E.2.1) (Nat.le_trans (show 6 * (5) ≤ 6 * 40 by omega) E.2.2)
    show gW Y (xK X (5)) S10 108 [(8, .int (iI 1)), (7, .int (iI stt)), (6, .int (iI bs)), (5, .int (iI (pG P 0))), (4, .int (iI sc)), (3, .int (iI fw)), (0, .ref (yA Y 72)), (1, .ref (yA Y 172)), (2, .int (iI x))] [.int (iI fw)]
    refine g_iload_n (q := 109) B11 dL_divides_108 rfl 5 rfl ?_
    refine g_icmp_ne (t := 212) (q := 112) B11 dL_divides_109 (by decide) rfl ⟨by omega, by omega⟩ ⟨by omega, by omega⟩ (fun cq109 => absurd cq109 (by omega)) (fun cq109 => ?_)
    refine g_aload_n (q := 113) B11 dL_divides_112 rfl 7 rfl ?_
    refine g_bipush (q := 115) B11 dL_divides_113 rfl (by decide) ?_
    refine g_iconst (q := 116) B11 dL_divides_115 rfl ?_
    refine g_iconst (q := 117) B11 dL_divides_116 rfl ?_
    refine g_iconst (q := 118) B11 dL_divides_117 rfl ?_
    refine g_callN (q := 121) (m1 := 1) (c2 := 6) (As := [.ref (yA Y 172), .int (iI 13), .int (iI 0), .int (iI 0), .int (iI 0)]) (st := []) B11 dL_divides_118 rfl (gN_sw (k_divide (Y := ySw Y) (S := sS S10) hst D10 W  0 0 0 (x := fw) (hx := (tv_0 cdv).trans hfw) (P' := P1) (hP := (if_pos cdv).trans hP1))) eL_call w179 (by decide) rfl rfl (Nat.le_of_ble_eq_true rfl) (by omega) (Nat.le_trans (show 6 ≤ 40 by omega) E.2.1) (Nat.le_trans (show 6 * (6) ≤ 6 * 40 by omega) E.2.2) (fun v S12 hS12 => ?_)
    obtain ⟨rfl, D12, K12⟩ := hS12
    have A12 := PK_o1 A10 K12
    have B13 := gB_K (c := 6) B11 (Nat.le_trans (show 6 ≤ 40 by omega) E.2.1) (Nat.le_trans (show 6 * (6) ≤ 6 * 40 by omega) E.2.2)
    show gW Y (xK X (6)) S12 121 [(8, .int (iI 1)), (7, .int (iI stt)), (6, .int (iI bs)), (5, .int (iI (pG P 0))), (4, .int (iI sc)), (3, .int (iI fw)), (0, .ref (yA Y 72)), (1, .ref (yA Y 172)), (2, .int (iI x))] [.int (iI fw)]
    refine g_iload_n (q := 122) B13 dL_divides_121 rfl 5 rfl ?_
    refine g_icmp_ne (t := 212) (q := 125) B13 dL_divides_122 (by decide) rfl ⟨by omega, by omega⟩ ⟨by omega, by omega⟩ (fun cq122 => absurd cq122 (by omega)) (fun cq122 => ?_)
    refine g_aload_n (q := 126) B13 dL_divides_125 rfl 6 rfl ?_
    refine g_iconst (q := 127) B13 dL_divides_126 rfl ?_
    refine g_iconst (q := 128) B13 dL_divides_127 rfl ?_
    refine g_iconst (q := 129) B13 dL_divides_128 rfl ?_
    refine g_iconst (q := 130) B13 dL_divides_129 rfl ?_
    refine g_callN (q := 133) (m1 := 1) (c2 := 7) (As := [.ref (yA Y 72), .int (iI 2), .int (iI 5), .int (iI 0), .int (iI 0)]) (st := []) B13 dL_divides_130 rfl (k_about (Y := Y) (S := S12) hst A12 V1.1 5 ⟨by omega, by omega⟩ 0 0 (x := 1) (hx := (by rw [e1]; exact (if_pos ⟨dg.2.2.1, dg.2.2.2.1⟩ : (if nobF D = 0 ∧ gapF D = 0 then (1 : Int) else 0) = 1)))) eL_call w179 (by decide) rfl rfl (Nat.le_of_ble_eq_true rfl) (by omega) (Nat.le_trans (show 7 ≤ 40 by omega) E.2.1) (Nat.le_trans (show 6 * (7) ≤ 6 * 40 by omega) E.2.2) (fun v S14 hS14 => ?_)
    obtain ⟨rfl, A14, K14⟩ := hS14
    have D14 := PK_o2 D12 K14
    have B15 := gB_K (c := 7) B13 (Nat.le_trans (show 7 ≤ 40 by omega) E.2.1) (Nat.le_trans (show 6 * (7) ≤ 6 * 40 by omega) E.2.2)
    show gW Y (xK X (7)) S14 133 [(8, .int (iI 1)), (7, .int (iI stt)), (6, .int (iI bs)), (5, .int (iI (pG P 0))), (4, .int (iI sc)), (3, .int (iI fw)), (0, .ref (yA Y 72)), (1, .ref (yA Y 172)), (2, .int (iI x))] [.int (iI 1)]
    refine g_iconst (q := 134) B15 dL_divides_133 rfl ?_
    refine g_icmp_ne (t := 212) (q := 137) B15 dL_divides_134 (by decide) rfl ⟨by omega, by omega⟩ ⟨by omega, by omega⟩ (fun cq134 => absurd cq134 (by decide)) (fun cq134 => ?_)
    refine g_aload_n (q := 138) B15 dL_divides_137 rfl 6 rfl ?_
    refine g_iconst (q := 139) B15 dL_divides_138 rfl ?_
    refine g_iconst (q := 140) B15 dL_divides_139 rfl ?_
    refine g_iconst (q := 141) B15 dL_divides_140 rfl ?_
    refine g_iconst (q := 142) B15 dL_divides_141 rfl ?_
    refine g_callN (q := 145) (m1 := 1) (c2 := 8) (As := [.ref (yA Y 72), .int (iI 2), .int (iI 2), .int (iI 0), .int (iI 0)]) (st := []) B15 dL_divides_142 rfl (k_about (Y := Y) (S := S14) hst A14 V1.1 2 ⟨by omega, by omega⟩ 0 0 (x := fw) (hx := (by rw [e1]; exact dg.2.2.2.2.1.trans hfc))) eL_call w179 (by decide) rfl rfl (Nat.le_of_ble_eq_true rfl) (by omega) (Nat.le_trans (show 8 ≤ 40 by omega) E.2.1) (Nat.le_trans (show 6 * (8) ≤ 6 * 40 by omega) E.2.2) (fun v S16 hS16 => ?_)
    obtain ⟨rfl, A16, K16⟩ := hS16
    have D16 := PK_o2 D14 K16
    have B17 := gB_K (c := 8) B15 (Nat.le_trans (show 8 ≤ 40 by omega) E.2.1) (Nat.le_trans (show 6 * (8) ≤ 6 * 40 by omega) E.2.2)
    show gW Y (xK X (8)) S16 145 [(8, .int (iI 1)), (7, .int (iI stt)), (6, .int (iI bs)), (5, .int (iI (pG P 0))), (4, .int (iI sc)), (3, .int (iI fw)), (0, .ref (yA Y 72)), (1, .ref (yA Y 172)), (2, .int (iI x))] [.int (iI fw)]
    refine g_iload_n (q := 146) B17 dL_divides_145 rfl 5 rfl ?_
    refine g_icmp_ne (t := 212) (q := 149) B17 dL_divides_146 (by decide) rfl ⟨by omega, by omega⟩ ⟨by omega, by omega⟩ (fun cq146 => absurd cq146 (by omega)) (fun cq146 => ?_)
    refine g_aload_n (q := 150) B17 dL_divides_149 rfl 6 rfl ?_
    refine g_iconst (q := 151) B17 dL_divides_150 rfl ?_
    refine g_iconst (q := 152) B17 dL_divides_151 rfl ?_
    refine g_iconst (q := 153) B17 dL_divides_152 rfl ?_
    refine g_iconst (q := 154) B17 dL_divides_153 rfl ?_
    refine g_callN (q := 157) (m1 := 1) (c2 := 9) (As := [.ref (yA Y 72), .int (iI 5), .int (iI 0), .int (iI 2), .int (iI 0)]) (st := []) B17 dL_divides_154 rfl (k_runOf (Y := Y) (S := S16) hst A16 V1.1 0 ⟨by omega, by omega⟩ 2 ⟨by omega, by omega⟩ 0 (x := 0) (hx := (by rw [e1]; exact tv_own (by decide) (by rw [dg.2.2.2.2.2.1]; omega) dg.2.2.2.2.2.2.1))) eL_call w179 (by decide) rfl rfl (Nat.le_of_ble_eq_true rfl) (by omega) (Nat.le_trans (show 9 ≤ 40 by omega) E.2.1) (Nat.le_trans (show 6 * (9) ≤ 6 * 40 by omega) E.2.2) (fun v S18 hS18 => ?_)
    obtain ⟨rfl, A18, K18⟩ := hS18
    have D18 := PK_o2 D16 K18
    have B19 := gB_K (c := 9) B17 (Nat.le_trans (show 9 ≤ 40 by omega) E.2.1) (Nat.le_trans (show 6 * (9) ≤ 6 * 40 by omega) E.2.2)
    show gW Y (xK X (9)) S18 157 [(8, .int (iI 1)), (7, .int (iI stt)), (6, .int (iI bs)), (5, .int (iI (pG P 0))), (4, .int (iI sc)), (3, .int (iI fw)), (0, .ref (yA Y 72)), (1, .ref (yA Y 172)), (2, .int (iI x))] [.int (iI 0)]
    refine g_if_ne (t := 212) (q := 160) B19 dL_divides_157 (by decide) rfl ⟨by omega, by omega⟩ (fun cq157 => absurd cq157 (by decide)) (fun cq157 => ?_)
    refine g_iload_n (q := 161) B19 dL_divides_160 rfl 5 rfl ?_
    refine g_iconst (q := 162) B19 dL_divides_161 rfl ?_
    refine g_icmp_lt (t := 178) (q := 165) B19 dL_divides_162 (by decide) rfl ⟨by omega, by omega⟩ ⟨by omega, by omega⟩ (fun cq162 => ?_) (fun cq162 => ?_)
    · refine g_aload_n (q := 179) B19 dL_divides_178 rfl 6 rfl ?_
      refine g_bipush (q := 181) B19 dL_divides_179 rfl (by decide) ?_
      refine g_iconst (q := 182) B19 dL_divides_181 rfl ?_
      refine g_iconst (q := 183) B19 dL_divides_182 rfl ?_
      refine g_iconst (q := 184) B19 dL_divides_183 rfl ?_
      refine g_callN (q := 187) (m1 := 1) (c2 := 10) (As := [.ref (yA Y 72), .int (iI 15), .int (iI 0), .int (iI 0), .int (iI 0)]) (st := []) B19 dL_divides_184 rfl (k_undo (Y := Y) (S := S18) hst A18 V1.1  0 0 0 (x := pK P1 - 1) (hx := tv_0 (cd_undo0 k1)) (P' := Pa) (hP := (if_pos (cd_undo0 k1)).trans hPa)) eL_call w179 (by decide) rfl rfl (Nat.le_of_ble_eq_true rfl) (by omega) (Nat.le_trans (show 10 ≤ 40 by omega) E.2.1) (Nat.le_trans (show 6 * (10) ≤ 6 * 40 by omega) E.2.2) (fun v S20 hS20 => ?_)
      obtain ⟨rfl, A20, K20⟩ := hS20
      have D20 := PK_o2 D18 K20
      have B21 := gB_K (c := 10) B19 (Nat.le_trans (show 10 ≤ 40 by omega) E.2.1) (Nat.le_trans (show 6 * (10) ≤ 6 * 40 by omega) E.2.2)
      show gW Y (xK X (10)) S20 187 [(8, .int (iI 1)), (7, .int (iI stt)), (6, .int (iI bs)), (5, .int (iI (pG P 0))), (4, .int (iI sc)), (3, .int (iI fw)), (0, .ref (yA Y 72)), (1, .ref (yA Y 172)), (2, .int (iI x))] [.int (iI (pK P1 - 1))]
      refine g_callN (q := 190) (m1 := 0) (c2 := 10) (As := [.int (iI (pK P1 - 1))]) (st := []) B21 dL_divides_187 rfl (c_thrown (Y := Y) (S := S20) (pK P1 - 1) ⟨by omega, by omega⟩ (by omega)) eL_thrown w937 (by decide) rfl rfl (Nat.le_of_ble_eq_true rfl) (by omega) (Nat.le_trans (show 10 ≤ 40 by omega) E.2.1) (Nat.le_trans (show 6 * (10) ≤ 6 * 40 by omega) E.2.2) (fun v S22 hS22 => ?_)
      obtain ⟨rfl, eS22⟩ := hS22
      rw [eS22]
      show gW Y (xK X (10)) S20 190 [(8, .int (iI 1)), (7, .int (iI stt)), (6, .int (iI bs)), (5, .int (iI (pG P 0))), (4, .int (iI sc)), (3, .int (iI fw)), (0, .ref (yA Y 72)), (1, .ref (yA Y 172)), (2, .int (iI x))] [.int (iI 0)]
      refine g_if_ne (t := 212) (q := 193) B21 dL_divides_190 (by decide) rfl ⟨by omega, by omega⟩ (fun cq190 => absurd cq190 (by decide)) (fun cq190 => ?_)
      refine g_aload_n (q := 194) B21 dL_divides_193 rfl 7 rfl ?_
      refine g_bipush (q := 196) B21 dL_divides_194 rfl (by decide) ?_
      refine g_iconst (q := 197) B21 dL_divides_196 rfl ?_
      refine g_iconst (q := 198) B21 dL_divides_197 rfl ?_
      refine g_iconst (q := 199) B21 dL_divides_198 rfl ?_
      refine g_callN (q := 202) (m1 := 1) (c2 := 11) (As := [.ref (yA Y 172), .int (iI 15), .int (iI 0), .int (iI 0), .int (iI 0)]) (st := []) B21 dL_divides_199 rfl (gN_sw (k_undo (Y := ySw Y) (S := sS S20) hst D20 V1.1  0 0 0 (x := pK P1 - 1) (hx := tv_0 (cd_undo0 k1)) (P' := Pa) (hP := (if_pos (cd_undo0 k1)).trans hPa))) eL_call w179 (by decide) rfl rfl (Nat.le_of_ble_eq_true rfl) (by omega) (Nat.le_trans (show 11 ≤ 40 by omega) E.2.1) (Nat.le_trans (show 6 * (11) ≤ 6 * 40 by omega) E.2.2) (fun v S23 hS23 => ?_)
      obtain ⟨rfl, D23, K23⟩ := hS23
      have A23 := PK_o1 A20 K23
      have B24 := gB_K (c := 11) B21 (Nat.le_trans (show 11 ≤ 40 by omega) E.2.1) (Nat.le_trans (show 6 * (11) ≤ 6 * 40 by omega) E.2.2)
      show gW Y (xK X (11)) S23 202 [(8, .int (iI 1)), (7, .int (iI stt)), (6, .int (iI bs)), (5, .int (iI (pG P 0))), (4, .int (iI sc)), (3, .int (iI fw)), (0, .ref (yA Y 72)), (1, .ref (yA Y 172)), (2, .int (iI x))] [.int (iI (pK P1 - 1))]
      refine g_callN (q := 205) (m1 := 0) (c2 := 11) (As := [.int (iI (pK P1 - 1))]) (st := []) B24 dL_divides_202 rfl (c_thrown (Y := Y) (S := S23) (pK P1 - 1) ⟨by omega, by omega⟩ (by omega)) eL_thrown w937 (by decide) rfl rfl (Nat.le_of_ble_eq_true rfl) (by omega) (Nat.le_trans (show 11 ≤ 40 by omega) E.2.1) (Nat.le_trans (show 6 * (11) ≤ 6 * 40 by omega) E.2.2) (fun v S25 hS25 => ?_)
      obtain ⟨rfl, eS25⟩ := hS25
      rw [eS25]
      show gW Y (xK X (11)) S23 205 [(8, .int (iI 1)), (7, .int (iI stt)), (6, .int (iI bs)), (5, .int (iI (pG P 0))), (4, .int (iI sc)), (3, .int (iI fw)), (0, .ref (yA Y 72)), (1, .ref (yA Y 172)), (2, .int (iI x))] [.int (iI 0)]
      refine g_if_ne (t := 212) (q := 208) B24 dL_divides_205 (by decide) rfl ⟨by omega, by omega⟩ (fun cq205 => absurd cq205 (by decide)) (fun cq205 => ?_)
      refine g_iconst (q := 209) B24 dL_divides_208 rfl ?_
      refine g_goto (q := 213) B24 dL_divides_209 (by decide) ?_
      refine g_istore (q := 215) B24 dL_divides_213 rfl (by decide) (L' := [(8, .int (iI 1)), (7, .int (iI stt)), (6, .int (iI bs)), (5, .int (iI (pG P 0))), (4, .int (iI sc)), (3, .int (iI fw)), (0, .ref (yA Y 72)), (1, .ref (yA Y 172)), (2, .int (iI x))]) rfl ?_
      refine g_iload (q := 217) B24 dL_divides_215 rfl 2 rfl ?_
      refine g_iconst (q := 218) B24 dL_divides_217 rfl ?_
      refine g_icmp_eq (t := 449) (q := 221) B24 dL_divides_218 (by decide) rfl ⟨by omega, by omega⟩ ⟨by omega, by omega⟩ (fun cq218 => absurd cq218 (by exact fun z => hno (bb.1 z))) (fun cq218 => ?_)
      have hnb : bs ≠ -1 := fun z => hno (bb.1 z)
      have bz := bb.2 hnb
      obtain ⟨lf, hlf⟩ : ∃ z : Int, fewF (brkG (pG P) bs) = z := ⟨_, rfl⟩
      have lr := few_in (brkG (pG P) bs)
      rw [hlf] at bz lr
      obtain ⟨P3, hP3⟩ : ∃ z : PT, pPush Pa (brkG (pG P) bs) = z := ⟨_, rfl⟩
      have e3 : pG P3 = brkG (pG P) bs := by rw [← hP3]; rfl
      have n3 : brkG (pG P) bs 0 = pG P 0 := n_brk bs
      have w3 := wf_brkG hw bs
      have b3 : brkG (pG P) bs 1 = bs := by
        have h1 : brkG (pG P) bs = brkF (pG P) bs := if_pos bz.1
        rw [h1]; rfl
      have V3 : OK P3 := by rw [← hP3]; exact ok_push0 Va w3 (by rw [ea]; exact n3)
      have b4 := bz.2.2.2 oth m1.1 m1.2
      obtain ⟨iz, hiz⟩ : ∃ z : Int, fewF (brkG (brkG (pG P) bs) oth) = z := ⟨_, rfl⟩
      have ir := few_in (brkG (brkG (pG P) bs) oth)
      rw [hiz] at b4 ir
      obtain ⟨P4, hP4⟩ : ∃ z : PT, pPush P3 (brkG (brkG (pG P) bs) oth) = z := ⟨_, rfl⟩
      have e4 : pG P4 = brkG (brkG (pG P) bs) oth := by rw [← hP4]; rfl
      have n4 : brkG (brkG (pG P) bs) oth 0 = pG P3 0 := by rw [e3]; exact n_brk oth
      have w4 := wf_brkG w3 oth
      have V4 : OK P4 := by rw [← hP4]; exact ok_push0 V3 w4 n4
      have k4 : 1 < pK P4 := by rw [← hP4, ← hP3]; exact pK_2 Pa _ _ Va.1
      have k4b := V4.1.2.2.1
      have k4 : 0 < pK P4 := by omega
      obtain ⟨P5, hP5⟩ : ∃ z : PT, pUndo P4 = z := ⟨_, rfl⟩
      have V5 : OK P5 := by rw [← hP5, ← hP4]; exact ok_un V3 w4 n4
      have k5 : pK P5 = pK P4 - 1 := by rw [← hP5]; rfl
      have k5b := V5.1.2.2.1
      have k5 : 0 < pK P5 := by rw [k5, ← hP4, ← hP3]; have := pK_2 Pa (brkG (pG P) bs) (brkG (brkG (pG P) bs) oth) Va.1; omega
      obtain ⟨P6, hP6⟩ : ∃ z : PT, pUndo P5 = z := ⟨_, rfl⟩
      have e6 : pG P6 = pG P := by rw [← hP6, ← hP5, ← hP4, ← hP3]; exact (un_2 Pa _ _ Va.1).trans ea
      have V6 : OK P6 := by
        have h6 : 4 ≤ pG P6 0 := by rw [e6]; exact C.1
        rw [← hP6] at h6 ⊢
        exact ok_undo V5 k5 h6
      refine g_iload (q := 223) B24 dL_divides_221 rfl 0 rfl ?_
      refine g_if_eq (t := 449) (q := 226) B24 dL_divides_223 (by decide) rfl ⟨by omega, by omega⟩ (fun cq223 => absurd cq223 (by decide)) (fun cq223 => ?_)
      refine g_iload_n (q := 227) B24 dL_divides_226 rfl 8 rfl ?_
      refine g_iload (q := 229) B24 dL_divides_227 rfl 3 rfl ?_
      refine g_irem (q := 230) B24 dL_divides_229 rfl (by omega) (by omega) (by omega) (by omega) ?_
      refine g_eqT (st' := [.int (iI oth)]) (by rw [hoth]) ?_
      refine g_istore (q := 232) B24 dL_divides_230 rfl (by decide) (L' := [(9, .int (iI oth)), (8, .int (iI 1)), (7, .int (iI stt)), (6, .int (iI bs)), (5, .int (iI (pG P 0))), (4, .int (iI sc)), (3, .int (iI fw)), (0, .ref (yA Y 72)), (1, .ref (yA Y 172)), (2, .int (iI x))]) rfl ?_
      refine g_aload_n (q := 233) B24 dL_divides_232 rfl 7 rfl ?_
      refine g_bipush (q := 235) B24 dL_divides_233 rfl (by decide) ?_
      refine g_iload (q := 237) B24 dL_divides_235 rfl 3 rfl ?_
      refine g_iconst (q := 238) B24 dL_divides_237 rfl ?_
      refine g_iconst (q := 239) B24 dL_divides_238 rfl ?_
      refine g_callN (q := 242) (m1 := 1) (c2 := 12) (As := [.ref (yA Y 72), .int (iI 9), .int (iI bs), .int (iI 0), .int (iI 0)]) (st := []) B24 dL_divides_239 rfl (k_breakAt (Y := Y) (S := S23) hst A23 Va.1 bs ⟨by omega, by omega⟩ 0 0 (x := stt) (hx := (by rw [ea]; exact (tv_0 (cd_brk0 bz.1.1 bz.1.2)).trans hstt)) (P' := P3) (hP := (by rw [ea]; exact (if_pos (cd_brk0 bz.1.1 bz.1.2)).trans hP3))) eL_call w179 (by decide) rfl rfl (Nat.le_of_ble_eq_true rfl) (by omega) (Nat.le_trans (show 12 ≤ 40 by omega) E.2.1) (Nat.le_trans (show 6 * (12) ≤ 6 * 40 by omega) E.2.2) (fun v S26 hS26 => ?_)
      obtain ⟨rfl, A26, K26⟩ := hS26
      have D26 := PK_o2 D23 K26
      have B27 := gB_K (c := 12) B24 (Nat.le_trans (show 12 ≤ 40 by omega) E.2.1) (Nat.le_trans (show 6 * (12) ≤ 6 * 40 by omega) E.2.2)
      show gW Y (xK X (12)) S26 242 [(9, .int (iI oth)), (8, .int (iI 1)), (7, .int (iI stt)), (6, .int (iI bs)), (5, .int (iI (pG P 0))), (4, .int (iI sc)), (3, .int (iI fw)), (0, .ref (yA Y 72)), (1, .ref (yA Y 172)), (2, .int (iI x))] [.int (iI stt)]
      refine g_iload (q := 244) B27 dL_divides_242 rfl 2 rfl ?_
      refine g_icmp_ne (t := 266) (q := 247) B27 dL_divides_244 (by decide) rfl ⟨by omega, by omega⟩ ⟨by omega, by omega⟩ (fun cq244 => absurd cq244 (by omega)) (fun cq244 => ?_)
      refine g_aload_n (q := 248) B27 dL_divides_247 rfl 8 rfl ?_
      refine g_bipush (q := 250) B27 dL_divides_248 rfl (by decide) ?_
      refine g_iload (q := 252) B27 dL_divides_250 rfl 3 rfl ?_
      refine g_iconst (q := 253) B27 dL_divides_252 rfl ?_
      refine g_iconst (q := 254) B27 dL_divides_253 rfl ?_
      refine g_callN (q := 257) (m1 := 1) (c2 := 13) (As := [.ref (yA Y 172), .int (iI 9), .int (iI bs), .int (iI 0), .int (iI 0)]) (st := []) B27 dL_divides_254 rfl (gN_sw (k_breakAt (Y := ySw Y) (S := sS S26) hst D26 Va.1 bs ⟨by omega, by omega⟩ 0 0 (x := stt) (hx := (by rw [ea]; exact (tv_0 (cd_brk0 bz.1.1 bz.1.2)).trans hstt)) (P' := P3) (hP := (by rw [ea]; exact (if_pos (cd_brk0 bz.1.1 bz.1.2)).trans hP3)))) eL_call w179 (by decide) rfl rfl (Nat.le_of_ble_eq_true rfl) (by omega) (Nat.le_trans (show 13 ≤ 40 by omega) E.2.1) (Nat.le_trans (show 6 * (13) ≤ 6 * 40 by omega) E.2.2) (fun v S28 hS28 => ?_)
      obtain ⟨rfl, D28, K28⟩ := hS28
      have A28 := PK_o1 A26 K28
      have B29 := gB_K (c := 13) B27 (Nat.le_trans (show 13 ≤ 40 by omega) E.2.1) (Nat.le_trans (show 6 * (13) ≤ 6 * 40 by omega) E.2.2)
      show gW Y (xK X (13)) S28 257 [(9, .int (iI oth)), (8, .int (iI 1)), (7, .int (iI stt)), (6, .int (iI bs)), (5, .int (iI (pG P 0))), (4, .int (iI sc)), (3, .int (iI fw)), (0, .ref (yA Y 72)), (1, .ref (yA Y 172)), (2, .int (iI x))] [.int (iI stt)]
      refine g_iload (q := 259) B29 dL_divides_257 rfl 2 rfl ?_
      refine g_icmp_ne (t := 266) (q := 262) B29 dL_divides_259 (by decide) rfl ⟨by omega, by omega⟩ ⟨by omega, by omega⟩ (fun cq259 => absurd cq259 (by omega)) (fun cq259 => ?_)
      refine g_iconst (q := 263) B29 dL_divides_262 rfl ?_
      refine g_goto (q := 267) B29 dL_divides_263 (by decide) ?_
      refine g_istore (q := 269) B29 dL_divides_267 rfl (by decide) (L' := [(8, .int (iI 1)), (9, .int (iI oth)), (7, .int (iI stt)), (6, .int (iI bs)), (5, .int (iI (pG P 0))), (4, .int (iI sc)), (3, .int (iI fw)), (0, .ref (yA Y 72)), (1, .ref (yA Y 172)), (2, .int (iI x))]) rfl ?_
      refine g_aload_n (q := 270) B29 dL_divides_269 rfl 7 rfl ?_
      refine g_bipush (q := 272) B29 dL_divides_270 rfl (by decide) ?_
      refine g_iconst (q := 273) B29 dL_divides_272 rfl ?_
      refine g_iconst (q := 274) B29 dL_divides_273 rfl ?_
      refine g_iconst (q := 275) B29 dL_divides_274 rfl ?_
      refine g_callN (q := 278) (m1 := 1) (c2 := 14) (As := [.ref (yA Y 72), .int (iI 16), .int (iI 0), .int (iI 0), .int (iI 0)]) (st := []) B29 dL_divides_275 rfl (k_fewest (Y := Y) (S := S28) hst A28 V3.1 0 ⟨by omega, by omega⟩ 0 0 (x := lf) (hx := (by rw [e3]; exact hlf))) eL_call w179 (by decide) rfl rfl (Nat.le_of_ble_eq_true rfl) (by omega) (Nat.le_trans (show 14 ≤ 40 by omega) E.2.1) (Nat.le_trans (show 6 * (14) ≤ 6 * 40 by omega) E.2.2) (fun v S30 hS30 => ?_)
      obtain ⟨rfl, A30, K30⟩ := hS30
      have D30 := PK_o2 D28 K30
      have B31 := gB_K (c := 14) B29 (Nat.le_trans (show 14 ≤ 40 by omega) E.2.1) (Nat.le_trans (show 6 * (14) ≤ 6 * 40 by omega) E.2.2)
      show gW Y (xK X (14)) S30 278 [(8, .int (iI 1)), (9, .int (iI oth)), (7, .int (iI stt)), (6, .int (iI bs)), (5, .int (iI (pG P 0))), (4, .int (iI sc)), (3, .int (iI fw)), (0, .ref (yA Y 72)), (1, .ref (yA Y 172)), (2, .int (iI x))] [.int (iI lf)]
      refine g_istore (q := 280) B31 dL_divides_278 rfl (by decide) (L' := [(10, .int (iI lf)), (8, .int (iI 1)), (9, .int (iI oth)), (7, .int (iI stt)), (6, .int (iI bs)), (5, .int (iI (pG P 0))), (4, .int (iI sc)), (3, .int (iI fw)), (0, .ref (yA Y 72)), (1, .ref (yA Y 172)), (2, .int (iI x))]) rfl ?_
      refine g_iload (q := 282) B31 dL_divides_280 rfl 1 rfl ?_
      refine g_if_eq (t := 336) (q := 285) B31 dL_divides_282 (by decide) rfl ⟨by omega, by omega⟩ (fun cq282 => absurd cq282 (by decide)) (fun cq282 => ?_)
      refine g_iload (q := 287) B31 dL_divides_285 rfl 0 rfl ?_
      refine g_iconst (q := 288) B31 dL_divides_287 rfl ?_
      refine g_icmp_eq (t := 336) (q := 291) B31 dL_divides_288 (by decide) rfl ⟨by omega, by omega⟩ ⟨by omega, by omega⟩ (fun cq288 => absurd cq288 (by omega)) (fun cq288 => ?_)
      refine g_iload_n (q := 292) B31 dL_divides_291 rfl 7 rfl ?_
      refine g_iconst (q := 293) B31 dL_divides_292 rfl ?_
      refine g_icmp_eq (t := 302) (q := 296) B31 dL_divides_293 (by decide) rfl ⟨by omega, by omega⟩ ⟨by omega, by omega⟩ (fun cq293 => absurd cq293 (by omega)) (fun cq293 => ?_)
      refine g_iload (q := 298) B31 dL_divides_296 rfl 0 rfl ?_
      refine g_iload_n (q := 299) B31 dL_divides_298 rfl 7 rfl ?_
      refine g_icmp_gt (t := 336) (q := 302) B31 dL_divides_299 (by decide) rfl ⟨by omega, by omega⟩ ⟨by omega, by omega⟩ (fun cq299 => absurd cq299 (by omega)) (fun cq299 => ?_)
      refine g_aload_n (q := 303) B31 dL_divides_302 rfl 8 rfl ?_
      refine g_bipush (q := 305) B31 dL_divides_303 rfl (by decide) ?_
      refine g_iload (q := 307) B31 dL_divides_305 rfl 2 rfl ?_
      refine g_iconst (q := 308) B31 dL_divides_307 rfl ?_
      refine g_iconst (q := 309) B31 dL_divides_308 rfl ?_
      refine g_callN (q := 312) (m1 := 1) (c2 := 15) (As := [.ref (yA Y 72), .int (iI 9), .int (iI oth), .int (iI 0), .int (iI 0)]) (st := []) B31 dL_divides_309 rfl (k_breakAt (Y := Y) (S := S30) hst A30 V3.1 oth ⟨by omega, by omega⟩ 0 0 (x := bs) (hx := (by rw [e3]; exact (tv_0 (cd_brk0 m1.1 (by rw [n3]; exact m1.2))).trans b3)) (P' := P4) (hP := (by rw [e3]; exact (if_pos (cd_brk0 m1.1 (by rw [n3]; exact m1.2))).trans hP4))) eL_call w179 (by decide) rfl rfl (Nat.le_of_ble_eq_true rfl) (by omega) (Nat.le_trans (show 15 ≤ 40 by omega) E.2.1) (Nat.le_trans (show 6 * (15) ≤ 6 * 40 by omega) E.2.2) (fun v S32 hS32 => ?_)
      obtain ⟨rfl, A32, K32⟩ := hS32
      have D32 := PK_o2 D30 K32
      have B33 := gB_K (c := 15) B31 (Nat.le_trans (show 15 ≤ 40 by omega) E.2.1) (Nat.le_trans (show 6 * (15) ≤ 6 * 40 by omega) E.2.2)
      show gW Y (xK X (15)) S32 312 [(10, .int (iI lf)), (8, .int (iI 1)), (9, .int (iI oth)), (7, .int (iI stt)), (6, .int (iI bs)), (5, .int (iI (pG P 0))), (4, .int (iI sc)), (3, .int (iI fw)), (0, .ref (yA Y 72)), (1, .ref (yA Y 172)), (2, .int (iI x))] [.int (iI bs)]
      refine g_iload (q := 314) B33 dL_divides_312 rfl 4 rfl ?_
      refine g_icmp_ne (t := 336) (q := 317) B33 dL_divides_314 (by decide) rfl ⟨by omega, by omega⟩ ⟨by omega, by omega⟩ (fun cq314 => absurd cq314 (by omega)) (fun cq314 => ?_)
      refine g_aload_n (q := 318) B33 dL_divides_317 rfl 9 rfl ?_
      refine g_bipush (q := 320) B33 dL_divides_318 rfl (by decide) ?_
      refine g_iload (q := 322) B33 dL_divides_320 rfl 2 rfl ?_
      refine g_iconst (q := 323) B33 dL_divides_322 rfl ?_
      refine g_iconst (q := 324) B33 dL_divides_323 rfl ?_
      refine g_callN (q := 327) (m1 := 1) (c2 := 16) (As := [.ref (yA Y 172), .int (iI 9), .int (iI oth), .int (iI 0), .int (iI 0)]) (st := []) B33 dL_divides_324 rfl (gN_sw (k_breakAt (Y := ySw Y) (S := sS S32) hst D32 V3.1 oth ⟨by omega, by omega⟩ 0 0 (x := bs) (hx := (by rw [e3]; exact (tv_0 (cd_brk0 m1.1 (by rw [n3]; exact m1.2))).trans b3)) (P' := P4) (hP := (by rw [e3]; exact (if_pos (cd_brk0 m1.1 (by rw [n3]; exact m1.2))).trans hP4)))) eL_call w179 (by decide) rfl rfl (Nat.le_of_ble_eq_true rfl) (by omega) (Nat.le_trans (show 16 ≤ 40 by omega) E.2.1) (Nat.le_trans (show 6 * (16) ≤ 6 * 40 by omega) E.2.2) (fun v S34 hS34 => ?_)
      obtain ⟨rfl, D34, K34⟩ := hS34
      have A34 := PK_o1 A32 K34
      have B35 := gB_K (c := 16) B33 (Nat.le_trans (show 16 ≤ 40 by omega) E.2.1) (Nat.le_trans (show 6 * (16) ≤ 6 * 40 by omega) E.2.2)
      show gW Y (xK X (16)) S34 327 [(10, .int (iI lf)), (8, .int (iI 1)), (9, .int (iI oth)), (7, .int (iI stt)), (6, .int (iI bs)), (5, .int (iI (pG P 0))), (4, .int (iI sc)), (3, .int (iI fw)), (0, .ref (yA Y 72)), (1, .ref (yA Y 172)), (2, .int (iI x))] [.int (iI bs)]
      refine g_iload (q := 329) B35 dL_divides_327 rfl 4 rfl ?_
      refine g_icmp_ne (t := 336) (q := 332) B35 dL_divides_329 (by decide) rfl ⟨by omega, by omega⟩ ⟨by omega, by omega⟩ (fun cq329 => absurd cq329 (by omega)) (fun cq329 => ?_)
      refine g_iconst (q := 333) B35 dL_divides_332 rfl ?_
      refine g_goto (q := 337) B35 dL_divides_333 (by decide) ?_
      refine g_istore (q := 339) B35 dL_divides_337 rfl (by decide) (L' := [(8, .int (iI 1)), (10, .int (iI lf)), (9, .int (iI oth)), (7, .int (iI stt)), (6, .int (iI bs)), (5, .int (iI (pG P 0))), (4, .int (iI sc)), (3, .int (iI fw)), (0, .ref (yA Y 72)), (1, .ref (yA Y 172)), (2, .int (iI x))]) rfl ?_
      refine g_aload_n (q := 340) B35 dL_divides_339 rfl 8 rfl ?_
      refine g_bipush (q := 342) B35 dL_divides_340 rfl (by decide) ?_
      refine g_iconst (q := 343) B35 dL_divides_342 rfl ?_
      refine g_iconst (q := 344) B35 dL_divides_343 rfl ?_
      refine g_iconst (q := 345) B35 dL_divides_344 rfl ?_
      refine g_callN (q := 348) (m1 := 1) (c2 := 17) (As := [.ref (yA Y 72), .int (iI 16), .int (iI 1), .int (iI 0), .int (iI 0)]) (st := []) B35 dL_divides_345 rfl (k_fewest (Y := Y) (S := S34) hst A34 V4.1 1 ⟨by omega, by omega⟩ 0 0 (x := iz) (hx := (by rw [e4]; exact hiz))) eL_call w179 (by decide) rfl rfl (Nat.le_of_ble_eq_true rfl) (by omega) (Nat.le_trans (show 17 ≤ 40 by omega) E.2.1) (Nat.le_trans (show 6 * (17) ≤ 6 * 40 by omega) E.2.2) (fun v S36 hS36 => ?_)
      obtain ⟨rfl, A36, K36⟩ := hS36
      have D36 := PK_o2 D34 K36
      have B37 := gB_K (c := 17) B35 (Nat.le_trans (show 17 ≤ 40 by omega) E.2.1) (Nat.le_trans (show 6 * (17) ≤ 6 * 40 by omega) E.2.2)
      show gW Y (xK X (17)) S36 348 [(8, .int (iI 1)), (10, .int (iI lf)), (9, .int (iI oth)), (7, .int (iI stt)), (6, .int (iI bs)), (5, .int (iI (pG P 0))), (4, .int (iI sc)), (3, .int (iI fw)), (0, .ref (yA Y 72)), (1, .ref (yA Y 172)), (2, .int (iI x))] [.int (iI iz)]
      refine g_istore (q := 350) B37 dL_divides_348 rfl (by decide) (L' := [(11, .int (iI iz)), (8, .int (iI 1)), (10, .int (iI lf)), (9, .int (iI oth)), (7, .int (iI stt)), (6, .int (iI bs)), (5, .int (iI (pG P 0))), (4, .int (iI sc)), (3, .int (iI fw)), (0, .ref (yA Y 72)), (1, .ref (yA Y 172)), (2, .int (iI x))]) rfl ?_
      refine g_iload (q := 352) B37 dL_divides_350 rfl 1 rfl ?_
      refine g_if_eq (t := 446) (q := 355) B37 dL_divides_352 (by decide) rfl ⟨by omega, by omega⟩ (fun cq352 => absurd cq352 (by decide)) (fun cq352 => ?_)
      refine g_iload (q := 357) B37 dL_divides_355 rfl 0 rfl ?_
      refine g_iconst (q := 358) B37 dL_divides_357 rfl ?_
      refine g_icmp_eq (t := 382) (q := 361) B37 dL_divides_358 (by decide) rfl ⟨by omega, by omega⟩ ⟨by omega, by omega⟩ (fun cq358 => ?_) (fun cq358 => ?_)
      · refine g_aload_n (q := 383) B37 dL_divides_382 rfl 9 rfl ?_
        refine g_bipush (q := 385) B37 dL_divides_383 rfl (by decide) ?_
        refine g_iconst (q := 386) B37 dL_divides_385 rfl ?_
        refine g_iconst (q := 387) B37 dL_divides_386 rfl ?_
        refine g_iconst (q := 388) B37 dL_divides_387 rfl ?_
        refine g_callN (q := 391) (m1 := 1) (c2 := 18) (As := [.ref (yA Y 72), .int (iI 15), .int (iI 0), .int (iI 0), .int (iI 0)]) (st := []) B37 dL_divides_388 rfl (k_undo (Y := Y) (S := S36) hst A36 V4.1  0 0 0 (x := pK P4 - 1) (hx := tv_0 (cd_undo0 k4)) (P' := P5) (hP := (if_pos (cd_undo0 k4)).trans hP5)) eL_call w179 (by decide) rfl rfl (Nat.le_of_ble_eq_true rfl) (by omega) (Nat.le_trans (show 18 ≤ 40 by omega) E.2.1) (Nat.le_trans (show 6 * (18) ≤ 6 * 40 by omega) E.2.2) (fun v S38 hS38 => ?_)
        obtain ⟨rfl, A38, K38⟩ := hS38
        have D38 := PK_o2 D36 K38
        have B39 := gB_K (c := 18) B37 (Nat.le_trans (show 18 ≤ 40 by omega) E.2.1) (Nat.le_trans (show 6 * (18) ≤ 6 * 40 by omega) E.2.2)
        show gW Y (xK X (18)) S38 391 [(11, .int (iI iz)), (8, .int (iI 1)), (10, .int (iI lf)), (9, .int (iI oth)), (7, .int (iI stt)), (6, .int (iI bs)), (5, .int (iI (pG P 0))), (4, .int (iI sc)), (3, .int (iI fw)), (0, .ref (yA Y 72)), (1, .ref (yA Y 172)), (2, .int (iI x))] [.int (iI (pK P4 - 1))]
        refine g_callN (q := 394) (m1 := 0) (c2 := 18) (As := [.int (iI (pK P4 - 1))]) (st := []) B39 dL_divides_391 rfl (c_thrown (Y := Y) (S := S38) (pK P4 - 1) ⟨by omega, by omega⟩ (by omega)) eL_thrown w937 (by decide) rfl rfl (Nat.le_of_ble_eq_true rfl) (by omega) (Nat.le_trans (show 18 ≤ 40 by omega) E.2.1) (Nat.le_trans (show 6 * (18) ≤ 6 * 40 by omega) E.2.2) (fun v S40 hS40 => ?_)
        obtain ⟨rfl, eS40⟩ := hS40
        rw [eS40]
        show gW Y (xK X (18)) S38 394 [(11, .int (iI iz)), (8, .int (iI 1)), (10, .int (iI lf)), (9, .int (iI oth)), (7, .int (iI stt)), (6, .int (iI bs)), (5, .int (iI (pG P 0))), (4, .int (iI sc)), (3, .int (iI fw)), (0, .ref (yA Y 72)), (1, .ref (yA Y 172)), (2, .int (iI x))] [.int (iI 0)]
        refine g_if_ne (t := 446) (q := 397) B39 dL_divides_394 (by decide) rfl ⟨by omega, by omega⟩ (fun cq394 => absurd cq394 (by decide)) (fun cq394 => ?_)
        refine g_aload_n (q := 398) B39 dL_divides_397 rfl 10 rfl ?_
        refine g_bipush (q := 400) B39 dL_divides_398 rfl (by decide) ?_
        refine g_iconst (q := 401) B39 dL_divides_400 rfl ?_
        refine g_iconst (q := 402) B39 dL_divides_401 rfl ?_
        refine g_iconst (q := 403) B39 dL_divides_402 rfl ?_
        refine g_callN (q := 406) (m1 := 1) (c2 := 19) (As := [.ref (yA Y 172), .int (iI 15), .int (iI 0), .int (iI 0), .int (iI 0)]) (st := []) B39 dL_divides_403 rfl (gN_sw (k_undo (Y := ySw Y) (S := sS S38) hst D38 V4.1  0 0 0 (x := pK P4 - 1) (hx := tv_0 (cd_undo0 k4)) (P' := P5) (hP := (if_pos (cd_undo0 k4)).trans hP5))) eL_call w179 (by decide) rfl rfl (Nat.le_of_ble_eq_true rfl) (by omega) (Nat.le_trans (show 19 ≤ 40 by omega) E.2.1) (Nat.le_trans (show 6 * (19) ≤ 6 * 40 by omega) E.2.2) (fun v S41 hS41 => ?_)
        obtain ⟨rfl, D41, K41⟩ := hS41
        have A41 := PK_o1 A38 K41
        have B42 := gB_K (c := 19) B39 (Nat.le_trans (show 19 ≤ 40 by omega) E.2.1) (Nat.le_trans (show 6 * (19) ≤ 6 * 40 by omega) E.2.2)
        show gW Y (xK X (19)) S41 406 [(11, .int (iI iz)), (8, .int (iI 1)), (10, .int (iI lf)), (9, .int (iI oth)), (7, .int (iI stt)), (6, .int (iI bs)), (5, .int (iI (pG P 0))), (4, .int (iI sc)), (3, .int (iI fw)), (0, .ref (yA Y 72)), (1, .ref (yA Y 172)), (2, .int (iI x))] [.int (iI (pK P4 - 1))]
        refine g_callN (q := 409) (m1 := 0) (c2 := 19) (As := [.int (iI (pK P4 - 1))]) (st := []) B42 dL_divides_406 rfl (c_thrown (Y := Y) (S := S41) (pK P4 - 1) ⟨by omega, by omega⟩ (by omega)) eL_thrown w937 (by decide) rfl rfl (Nat.le_of_ble_eq_true rfl) (by omega) (Nat.le_trans (show 19 ≤ 40 by omega) E.2.1) (Nat.le_trans (show 6 * (19) ≤ 6 * 40 by omega) E.2.2) (fun v S43 hS43 => ?_)
        obtain ⟨rfl, eS43⟩ := hS43
        rw [eS43]
        show gW Y (xK X (19)) S41 409 [(11, .int (iI iz)), (8, .int (iI 1)), (10, .int (iI lf)), (9, .int (iI oth)), (7, .int (iI stt)), (6, .int (iI bs)), (5, .int (iI (pG P 0))), (4, .int (iI sc)), (3, .int (iI fw)), (0, .ref (yA Y 72)), (1, .ref (yA Y 172)), (2, .int (iI x))] [.int (iI 0)]
        refine g_if_ne (t := 446) (q := 412) B42 dL_divides_409 (by decide) rfl ⟨by omega, by omega⟩ (fun cq409 => absurd cq409 (by decide)) (fun cq409 => ?_)
        refine g_aload_n (q := 413) B42 dL_divides_412 rfl 9 rfl ?_
        refine g_bipush (q := 415) B42 dL_divides_413 rfl (by decide) ?_
        refine g_iconst (q := 416) B42 dL_divides_415 rfl ?_
        refine g_iconst (q := 417) B42 dL_divides_416 rfl ?_
        refine g_iconst (q := 418) B42 dL_divides_417 rfl ?_
        refine g_callN (q := 421) (m1 := 1) (c2 := 20) (As := [.ref (yA Y 72), .int (iI 15), .int (iI 0), .int (iI 0), .int (iI 0)]) (st := []) B42 dL_divides_418 rfl (k_undo (Y := Y) (S := S41) hst A41 V5.1  0 0 0 (x := pK P5 - 1) (hx := tv_0 (cd_undo0 k5)) (P' := P6) (hP := (if_pos (cd_undo0 k5)).trans hP6)) eL_call w179 (by decide) rfl rfl (Nat.le_of_ble_eq_true rfl) (by omega) (Nat.le_trans (show 20 ≤ 40 by omega) E.2.1) (Nat.le_trans (show 6 * (20) ≤ 6 * 40 by omega) E.2.2) (fun v S44 hS44 => ?_)
        obtain ⟨rfl, A44, K44⟩ := hS44
        have D44 := PK_o2 D41 K44
        have B45 := gB_K (c := 20) B42 (Nat.le_trans (show 20 ≤ 40 by omega) E.2.1) (Nat.le_trans (show 6 * (20) ≤ 6 * 40 by omega) E.2.2)
        show gW Y (xK X (20)) S44 421 [(11, .int (iI iz)), (8, .int (iI 1)), (10, .int (iI lf)), (9, .int (iI oth)), (7, .int (iI stt)), (6, .int (iI bs)), (5, .int (iI (pG P 0))), (4, .int (iI sc)), (3, .int (iI fw)), (0, .ref (yA Y 72)), (1, .ref (yA Y 172)), (2, .int (iI x))] [.int (iI (pK P5 - 1))]
        refine g_callN (q := 424) (m1 := 0) (c2 := 20) (As := [.int (iI (pK P5 - 1))]) (st := []) B45 dL_divides_421 rfl (c_thrown (Y := Y) (S := S44) (pK P5 - 1) ⟨by omega, by omega⟩ (by omega)) eL_thrown w937 (by decide) rfl rfl (Nat.le_of_ble_eq_true rfl) (by omega) (Nat.le_trans (show 20 ≤ 40 by omega) E.2.1) (Nat.le_trans (show 6 * (20) ≤ 6 * 40 by omega) E.2.2) (fun v S46 hS46 => ?_)
        obtain ⟨rfl, eS46⟩ := hS46
        rw [eS46]
        show gW Y (xK X (20)) S44 424 [(11, .int (iI iz)), (8, .int (iI 1)), (10, .int (iI lf)), (9, .int (iI oth)), (7, .int (iI stt)), (6, .int (iI bs)), (5, .int (iI (pG P 0))), (4, .int (iI sc)), (3, .int (iI fw)), (0, .ref (yA Y 72)), (1, .ref (yA Y 172)), (2, .int (iI x))] [.int (iI 0)]
        refine g_if_ne (t := 446) (q := 427) B45 dL_divides_424 (by decide) rfl ⟨by omega, by omega⟩ (fun cq424 => absurd cq424 (by decide)) (fun cq424 => ?_)
        refine g_aload_n (q := 428) B45 dL_divides_427 rfl 10 rfl ?_
        refine g_bipush (q := 430) B45 dL_divides_428 rfl (by decide) ?_
        refine g_iconst (q := 431) B45 dL_divides_430 rfl ?_
        refine g_iconst (q := 432) B45 dL_divides_431 rfl ?_
        refine g_iconst (q := 433) B45 dL_divides_432 rfl ?_
        refine g_callN (q := 436) (m1 := 1) (c2 := 21) (As := [.ref (yA Y 172), .int (iI 15), .int (iI 0), .int (iI 0), .int (iI 0)]) (st := []) B45 dL_divides_433 rfl (gN_sw (k_undo (Y := ySw Y) (S := sS S44) hst D44 V5.1  0 0 0 (x := pK P5 - 1) (hx := tv_0 (cd_undo0 k5)) (P' := P6) (hP := (if_pos (cd_undo0 k5)).trans hP6))) eL_call w179 (by decide) rfl rfl (Nat.le_of_ble_eq_true rfl) (by omega) (Nat.le_trans (show 21 ≤ 40 by omega) E.2.1) (Nat.le_trans (show 6 * (21) ≤ 6 * 40 by omega) E.2.2) (fun v S47 hS47 => ?_)
        obtain ⟨rfl, D47, K47⟩ := hS47
        have A47 := PK_o1 A44 K47
        have B48 := gB_K (c := 21) B45 (Nat.le_trans (show 21 ≤ 40 by omega) E.2.1) (Nat.le_trans (show 6 * (21) ≤ 6 * 40 by omega) E.2.2)
        show gW Y (xK X (21)) S47 436 [(11, .int (iI iz)), (8, .int (iI 1)), (10, .int (iI lf)), (9, .int (iI oth)), (7, .int (iI stt)), (6, .int (iI bs)), (5, .int (iI (pG P 0))), (4, .int (iI sc)), (3, .int (iI fw)), (0, .ref (yA Y 72)), (1, .ref (yA Y 172)), (2, .int (iI x))] [.int (iI (pK P5 - 1))]
        refine g_callN (q := 439) (m1 := 0) (c2 := 21) (As := [.int (iI (pK P5 - 1))]) (st := []) B48 dL_divides_436 rfl (c_thrown (Y := Y) (S := S47) (pK P5 - 1) ⟨by omega, by omega⟩ (by omega)) eL_thrown w937 (by decide) rfl rfl (Nat.le_of_ble_eq_true rfl) (by omega) (Nat.le_trans (show 21 ≤ 40 by omega) E.2.1) (Nat.le_trans (show 6 * (21) ≤ 6 * 40 by omega) E.2.2) (fun v S49 hS49 => ?_)
        obtain ⟨rfl, eS49⟩ := hS49
        rw [eS49]
        show gW Y (xK X (21)) S47 439 [(11, .int (iI iz)), (8, .int (iI 1)), (10, .int (iI lf)), (9, .int (iI oth)), (7, .int (iI stt)), (6, .int (iI bs)), (5, .int (iI (pG P 0))), (4, .int (iI sc)), (3, .int (iI fw)), (0, .ref (yA Y 72)), (1, .ref (yA Y 172)), (2, .int (iI x))] [.int (iI 0)]
        refine g_if_ne (t := 446) (q := 442) B48 dL_divides_439 (by decide) rfl ⟨by omega, by omega⟩ (fun cq439 => absurd cq439 (by decide)) (fun cq439 => ?_)
        refine g_iconst (q := 443) B48 dL_divides_442 rfl ?_
        refine g_goto (q := 447) B48 dL_divides_443 (by decide) ?_
        refine g_istore (q := 449) B48 dL_divides_447 rfl (by decide) (L' := [(8, .int (iI 1)), (11, .int (iI iz)), (10, .int (iI lf)), (9, .int (iI oth)), (7, .int (iI stt)), (6, .int (iI bs)), (5, .int (iI (pG P 0))), (4, .int (iI sc)), (3, .int (iI fw)), (0, .ref (yA Y 72)), (1, .ref (yA Y 172)), (2, .int (iI x))]) rfl ?_
        refine g_iload (q := 451) B48 dL_divides_449 rfl 0 rfl ?_
        refine g_if_eq (t := 484) (q := 454) B48 dL_divides_451 (by decide) rfl ⟨by omega, by omega⟩ (fun cq451 => absurd cq451 (by decide)) (fun cq451 => ?_)
        refine g_aload_n (q := 455) B48 dL_divides_454 rfl 9 rfl ?_
        refine g_iconst (q := 456) B48 dL_divides_455 rfl ?_
        refine g_iconst (q := 457) B48 dL_divides_456 rfl ?_
        refine g_iconst (q := 458) B48 dL_divides_457 rfl ?_
        refine g_iconst (q := 459) B48 dL_divides_458 rfl ?_
        refine g_callN (q := 462) (m1 := 1) (c2 := 22) (As := [.ref (yA Y 72), .int (iI 2), .int (iI 1), .int (iI 0), .int (iI 0)]) (st := []) B48 dL_divides_459 rfl (k_about (Y := Y) (S := S47) hst A47 V6.1 1 ⟨by omega, by omega⟩ 0 0 (x := stt) (hx := (by rw [e6]; exact hstt))) eL_call w179 (by decide) rfl rfl (Nat.le_of_ble_eq_true rfl) (by omega) (Nat.le_trans (show 22 ≤ 40 by omega) E.2.1) (Nat.le_trans (show 6 * (22) ≤ 6 * 40 by omega) E.2.2) (fun v S50 hS50 => ?_)
        obtain ⟨rfl, A50, K50⟩ := hS50
        have D50 := PK_o2 D47 K50
        have B51 := gB_K (c := 22) B48 (Nat.le_trans (show 22 ≤ 40 by omega) E.2.1) (Nat.le_trans (show 6 * (22) ≤ 6 * 40 by omega) E.2.2)
        show gW Y (xK X (22)) S50 462 [(8, .int (iI 1)), (11, .int (iI iz)), (10, .int (iI lf)), (9, .int (iI oth)), (7, .int (iI stt)), (6, .int (iI bs)), (5, .int (iI (pG P 0))), (4, .int (iI sc)), (3, .int (iI fw)), (0, .ref (yA Y 72)), (1, .ref (yA Y 172)), (2, .int (iI x))] [.int (iI stt)]
        refine g_iload (q := 464) B51 dL_divides_462 rfl 4 rfl ?_
        refine g_icmp_ne (t := 484) (q := 467) B51 dL_divides_464 (by decide) rfl ⟨by omega, by omega⟩ ⟨by omega, by omega⟩ (fun cq464 => absurd cq464 (by omega)) (fun cq464 => ?_)
        refine g_aload_n (q := 468) B51 dL_divides_467 rfl 9 rfl ?_
        refine g_bipush (q := 470) B51 dL_divides_468 rfl (by decide) ?_
        refine g_iconst (q := 471) B51 dL_divides_470 rfl ?_
        refine g_iconst (q := 472) B51 dL_divides_471 rfl ?_
        refine g_iconst (q := 473) B51 dL_divides_472 rfl ?_
        refine g_callN (q := 476) (m1 := 1) (c2 := 23) (As := [.ref (yA Y 72), .int (iI 16), .int (iI 0), .int (iI 0), .int (iI 0)]) (st := []) B51 dL_divides_473 rfl (k_fewest (Y := Y) (S := S50) hst A50 V6.1 0 ⟨by omega, by omega⟩ 0 0 (x := fw) (hx := (by rw [e6]; exact hfw))) eL_call w179 (by decide) rfl rfl (Nat.le_of_ble_eq_true rfl) (by omega) (Nat.le_trans (show 23 ≤ 40 by omega) E.2.1) (Nat.le_trans (show 6 * (23) ≤ 6 * 40 by omega) E.2.2) (fun v S52 hS52 => ?_)
        obtain ⟨rfl, A52, K52⟩ := hS52
        have D52 := PK_o2 D50 K52
        have B53 := gB_K (c := 23) B51 (Nat.le_trans (show 23 ≤ 40 by omega) E.2.1) (Nat.le_trans (show 6 * (23) ≤ 6 * 40 by omega) E.2.2)
        show gW Y (xK X (23)) S52 476 [(8, .int (iI 1)), (11, .int (iI iz)), (10, .int (iI lf)), (9, .int (iI oth)), (7, .int (iI stt)), (6, .int (iI bs)), (5, .int (iI (pG P 0))), (4, .int (iI sc)), (3, .int (iI fw)), (0, .ref (yA Y 72)), (1, .ref (yA Y 172)), (2, .int (iI x))] [.int (iI fw)]
        refine g_iload_n (q := 477) B53 dL_divides_476 rfl 8 rfl ?_
        refine g_icmp_ne (t := 484) (q := 480) B53 dL_divides_477 (by decide) rfl ⟨by omega, by omega⟩ ⟨by omega, by omega⟩ (fun cq477 => absurd cq477 (by omega)) (fun cq477 => ?_)
        refine g_iconst (q := 481) B53 dL_divides_480 rfl ?_
        refine g_goto (q := 485) B53 dL_divides_481 (by decide) ?_
        exact gn_zret B53 E (by omega) dL_divides_485 rfl (by decide) ⟨rfl, P6, V6, A52, D52⟩
      · refine g_iload (q := 363) B37 dL_divides_361 rfl 0 rfl ?_
        refine g_iload (q := 365) B37 dL_divides_363 rfl 2 rfl ?_
        refine g_icmp_gt (t := 382) (q := 368) B37 dL_divides_365 (by decide) rfl ⟨by omega, by omega⟩ ⟨by omega, by omega⟩ (fun cq365 => ?_) (fun cq365 => ?_)
        · refine g_aload_n (q := 383) B37 dL_divides_382 rfl 9 rfl ?_
          refine g_bipush (q := 385) B37 dL_divides_383 rfl (by decide) ?_
          refine g_iconst (q := 386) B37 dL_divides_385 rfl ?_
          refine g_iconst (q := 387) B37 dL_divides_386 rfl ?_
          refine g_iconst (q := 388) B37 dL_divides_387 rfl ?_
          refine g_callN (q := 391) (m1 := 1) (c2 := 18) (As := [.ref (yA Y 72), .int (iI 15), .int (iI 0), .int (iI 0), .int (iI 0)]) (st := []) B37 dL_divides_388 rfl (k_undo (Y := Y) (S := S36) hst A36 V4.1  0 0 0 (x := pK P4 - 1) (hx := tv_0 (cd_undo0 k4)) (P' := P5) (hP := (if_pos (cd_undo0 k4)).trans hP5)) eL_call w179 (by decide) rfl rfl (Nat.le_of_ble_eq_true rfl) (by omega) (Nat.le_trans (show 18 ≤ 40 by omega) E.2.1) (Nat.le_trans (show 6 * (18) ≤ 6 * 40 by omega) E.2.2) (fun v S54 hS54 => ?_)
          obtain ⟨rfl, A54, K54⟩ := hS54
          have D54 := PK_o2 D36 K54
          have B55 := gB_K (c := 18) B37 (Nat.le_trans (show 18 ≤ 40 by omega) E.2.1) (Nat.le_trans (show 6 * (18) ≤ 6 * 40 by omega) E.2.2)
          show gW Y (xK X (18)) S54 391 [(11, .int (iI iz)), (8, .int (iI 1)), (10, .int (iI lf)), (9, .int (iI oth)), (7, .int (iI stt)), (6, .int (iI bs)), (5, .int (iI (pG P 0))), (4, .int (iI sc)), (3, .int (iI fw)), (0, .ref (yA Y 72)), (1, .ref (yA Y 172)), (2, .int (iI x))] [.int (iI (pK P4 - 1))]
          refine g_callN (q := 394) (m1 := 0) (c2 := 18) (As := [.int (iI (pK P4 - 1))]) (st := []) B55 dL_divides_391 rfl (c_thrown (Y := Y) (S := S54) (pK P4 - 1) ⟨by omega, by omega⟩ (by omega)) eL_thrown w937 (by decide) rfl rfl (Nat.le_of_ble_eq_true rfl) (by omega) (Nat.le_trans (show 18 ≤ 40 by omega) E.2.1) (Nat.le_trans (show 6 * (18) ≤ 6 * 40 by omega) E.2.2) (fun v S56 hS56 => ?_)
          obtain ⟨rfl, eS56⟩ := hS56
          rw [eS56]
          show gW Y (xK X (18)) S54 394 [(11, .int (iI iz)), (8, .int (iI 1)), (10, .int (iI lf)), (9, .int (iI oth)), (7, .int (iI stt)), (6, .int (iI bs)), (5, .int (iI (pG P 0))), (4, .int (iI sc)), (3, .int (iI fw)), (0, .ref (yA Y 72)), (1, .ref (yA Y 172)), (2, .int (iI x))] [.int (iI 0)]
          refine g_if_ne (t := 446) (q := 397) B55 dL_divides_394 (by decide) rfl ⟨by omega, by omega⟩ (fun cq394 => absurd cq394 (by decide)) (fun cq394 => ?_)
          refine g_aload_n (q := 398) B55 dL_divides_397 rfl 10 rfl ?_
          refine g_bipush (q := 400) B55 dL_divides_398 rfl (by decide) ?_
          refine g_iconst (q := 401) B55 dL_divides_400 rfl ?_
          refine g_iconst (q := 402) B55 dL_divides_401 rfl ?_
          refine g_iconst (q := 403) B55 dL_divides_402 rfl ?_
          refine g_callN (q := 406) (m1 := 1) (c2 := 19) (As := [.ref (yA Y 172), .int (iI 15), .int (iI 0), .int (iI 0), .int (iI 0)]) (st := []) B55 dL_divides_403 rfl (gN_sw (k_undo (Y := ySw Y) (S := sS S54) hst D54 V4.1  0 0 0 (x := pK P4 - 1) (hx := tv_0 (cd_undo0 k4)) (P' := P5) (hP := (if_pos (cd_undo0 k4)).trans hP5))) eL_call w179 (by decide) rfl rfl (Nat.le_of_ble_eq_true rfl) (by omega) (Nat.le_trans (show 19 ≤ 40 by omega) E.2.1) (Nat.le_trans (show 6 * (19) ≤ 6 * 40 by omega) E.2.2) (fun v S57 hS57 => ?_)
          obtain ⟨rfl, D57, K57⟩ := hS57
          have A57 := PK_o1 A54 K57
          have B58 := gB_K (c := 19) B55 (Nat.le_trans (show 19 ≤ 40 by omega) E.2.1) (Nat.le_trans (show 6 * (19) ≤ 6 * 40 by omega) E.2.2)
          show gW Y (xK X (19)) S57 406 [(11, .int (iI iz)), (8, .int (iI 1)), (10, .int (iI lf)), (9, .int (iI oth)), (7, .int (iI stt)), (6, .int (iI bs)), (5, .int (iI (pG P 0))), (4, .int (iI sc)), (3, .int (iI fw)), (0, .ref (yA Y 72)), (1, .ref (yA Y 172)), (2, .int (iI x))] [.int (iI (pK P4 - 1))]
          refine g_callN (q := 409) (m1 := 0) (c2 := 19) (As := [.int (iI (pK P4 - 1))]) (st := []) B58 dL_divides_406 rfl (c_thrown (Y := Y) (S := S57) (pK P4 - 1) ⟨by omega, by omega⟩ (by omega)) eL_thrown w937 (by decide) rfl rfl (Nat.le_of_ble_eq_true rfl) (by omega) (Nat.le_trans (show 19 ≤ 40 by omega) E.2.1) (Nat.le_trans (show 6 * (19) ≤ 6 * 40 by omega) E.2.2) (fun v S59 hS59 => ?_)
          obtain ⟨rfl, eS59⟩ := hS59
          rw [eS59]
          show gW Y (xK X (19)) S57 409 [(11, .int (iI iz)), (8, .int (iI 1)), (10, .int (iI lf)), (9, .int (iI oth)), (7, .int (iI stt)), (6, .int (iI bs)), (5, .int (iI (pG P 0))), (4, .int (iI sc)), (3, .int (iI fw)), (0, .ref (yA Y 72)), (1, .ref (yA Y 172)), (2, .int (iI x))] [.int (iI 0)]
          refine g_if_ne (t := 446) (q := 412) B58 dL_divides_409 (by decide) rfl ⟨by omega, by omega⟩ (fun cq409 => absurd cq409 (by decide)) (fun cq409 => ?_)
          refine g_aload_n (q := 413) B58 dL_divides_412 rfl 9 rfl ?_
          refine g_bipush (q := 415) B58 dL_divides_413 rfl (by decide) ?_
          refine g_iconst (q := 416) B58 dL_divides_415 rfl ?_
          refine g_iconst (q := 417) B58 dL_divides_416 rfl ?_
          refine g_iconst (q := 418) B58 dL_divides_417 rfl ?_
          refine g_callN (q := 421) (m1 := 1) (c2 := 20) (As := [.ref (yA Y 72), .int (iI 15), .int (iI 0), .int (iI 0), .int (iI 0)]) (st := []) B58 dL_divides_418 rfl (k_undo (Y := Y) (S := S57) hst A57 V5.1  0 0 0 (x := pK P5 - 1) (hx := tv_0 (cd_undo0 k5)) (P' := P6) (hP := (if_pos (cd_undo0 k5)).trans hP6)) eL_call w179 (by decide) rfl rfl (Nat.le_of_ble_eq_true rfl) (by omega) (Nat.le_trans (show 20 ≤ 40 by omega) E.2.1) (Nat.le_trans (show 6 * (20) ≤ 6 * 40 by omega) E.2.2) (fun v S60 hS60 => ?_)
          obtain ⟨rfl, A60, K60⟩ := hS60
          have D60 := PK_o2 D57 K60
          have B61 := gB_K (c := 20) B58 (Nat.le_trans (show 20 ≤ 40 by omega) E.2.1) (Nat.le_trans (show 6 * (20) ≤ 6 * 40 by omega) E.2.2)
          show gW Y (xK X (20)) S60 421 [(11, .int (iI iz)), (8, .int (iI 1)), (10, .int (iI lf)), (9, .int (iI oth)), (7, .int (iI stt)), (6, .int (iI bs)), (5, .int (iI (pG P 0))), (4, .int (iI sc)), (3, .int (iI fw)), (0, .ref (yA Y 72)), (1, .ref (yA Y 172)), (2, .int (iI x))] [.int (iI (pK P5 - 1))]
          refine g_callN (q := 424) (m1 := 0) (c2 := 20) (As := [.int (iI (pK P5 - 1))]) (st := []) B61 dL_divides_421 rfl (c_thrown (Y := Y) (S := S60) (pK P5 - 1) ⟨by omega, by omega⟩ (by omega)) eL_thrown w937 (by decide) rfl rfl (Nat.le_of_ble_eq_true rfl) (by omega) (Nat.le_trans (show 20 ≤ 40 by omega) E.2.1) (Nat.le_trans (show 6 * (20) ≤ 6 * 40 by omega) E.2.2) (fun v S62 hS62 => ?_)
          obtain ⟨rfl, eS62⟩ := hS62
          rw [eS62]
          show gW Y (xK X (20)) S60 424 [(11, .int (iI iz)), (8, .int (iI 1)), (10, .int (iI lf)), (9, .int (iI oth)), (7, .int (iI stt)), (6, .int (iI bs)), (5, .int (iI (pG P 0))), (4, .int (iI sc)), (3, .int (iI fw)), (0, .ref (yA Y 72)), (1, .ref (yA Y 172)), (2, .int (iI x))] [.int (iI 0)]
          refine g_if_ne (t := 446) (q := 427) B61 dL_divides_424 (by decide) rfl ⟨by omega, by omega⟩ (fun cq424 => absurd cq424 (by decide)) (fun cq424 => ?_)
          refine g_aload_n (q := 428) B61 dL_divides_427 rfl 10 rfl ?_
          refine g_bipush (q := 430) B61 dL_divides_428 rfl (by decide) ?_
          refine g_iconst (q := 431) B61 dL_divides_430 rfl ?_
          refine g_iconst (q := 432) B61 dL_divides_431 rfl ?_
          refine g_iconst (q := 433) B61 dL_divides_432 rfl ?_
          refine g_callN (q := 436) (m1 := 1) (c2 := 21) (As := [.ref (yA Y 172), .int (iI 15), .int (iI 0), .int (iI 0), .int (iI 0)]) (st := []) B61 dL_divides_433 rfl (gN_sw (k_undo (Y := ySw Y) (S := sS S60) hst D60 V5.1  0 0 0 (x := pK P5 - 1) (hx := tv_0 (cd_undo0 k5)) (P' := P6) (hP := (if_pos (cd_undo0 k5)).trans hP6))) eL_call w179 (by decide) rfl rfl (Nat.le_of_ble_eq_true rfl) (by omega) (Nat.le_trans (show 21 ≤ 40 by omega) E.2.1) (Nat.le_trans (show 6 * (21) ≤ 6 * 40 by omega) E.2.2) (fun v S63 hS63 => ?_)
          obtain ⟨rfl, D63, K63⟩ := hS63
          have A63 := PK_o1 A60 K63
          have B64 := gB_K (c := 21) B61 (Nat.le_trans (show 21 ≤ 40 by omega) E.2.1) (Nat.le_trans (show 6 * (21) ≤ 6 * 40 by omega) E.2.2)
          show gW Y (xK X (21)) S63 436 [(11, .int (iI iz)), (8, .int (iI 1)), (10, .int (iI lf)), (9, .int (iI oth)), (7, .int (iI stt)), (6, .int (iI bs)), (5, .int (iI (pG P 0))), (4, .int (iI sc)), (3, .int (iI fw)), (0, .ref (yA Y 72)), (1, .ref (yA Y 172)), (2, .int (iI x))] [.int (iI (pK P5 - 1))]
          refine g_callN (q := 439) (m1 := 0) (c2 := 21) (As := [.int (iI (pK P5 - 1))]) (st := []) B64 dL_divides_436 rfl (c_thrown (Y := Y) (S := S63) (pK P5 - 1) ⟨by omega, by omega⟩ (by omega)) eL_thrown w937 (by decide) rfl rfl (Nat.le_of_ble_eq_true rfl) (by omega) (Nat.le_trans (show 21 ≤ 40 by omega) E.2.1) (Nat.le_trans (show 6 * (21) ≤ 6 * 40 by omega) E.2.2) (fun v S65 hS65 => ?_)
          obtain ⟨rfl, eS65⟩ := hS65
          rw [eS65]
          show gW Y (xK X (21)) S63 439 [(11, .int (iI iz)), (8, .int (iI 1)), (10, .int (iI lf)), (9, .int (iI oth)), (7, .int (iI stt)), (6, .int (iI bs)), (5, .int (iI (pG P 0))), (4, .int (iI sc)), (3, .int (iI fw)), (0, .ref (yA Y 72)), (1, .ref (yA Y 172)), (2, .int (iI x))] [.int (iI 0)]
          refine g_if_ne (t := 446) (q := 442) B64 dL_divides_439 (by decide) rfl ⟨by omega, by omega⟩ (fun cq439 => absurd cq439 (by decide)) (fun cq439 => ?_)
          refine g_iconst (q := 443) B64 dL_divides_442 rfl ?_
          refine g_goto (q := 447) B64 dL_divides_443 (by decide) ?_
          refine g_istore (q := 449) B64 dL_divides_447 rfl (by decide) (L' := [(8, .int (iI 1)), (11, .int (iI iz)), (10, .int (iI lf)), (9, .int (iI oth)), (7, .int (iI stt)), (6, .int (iI bs)), (5, .int (iI (pG P 0))), (4, .int (iI sc)), (3, .int (iI fw)), (0, .ref (yA Y 72)), (1, .ref (yA Y 172)), (2, .int (iI x))]) rfl ?_
          refine g_iload (q := 451) B64 dL_divides_449 rfl 0 rfl ?_
          refine g_if_eq (t := 484) (q := 454) B64 dL_divides_451 (by decide) rfl ⟨by omega, by omega⟩ (fun cq451 => absurd cq451 (by decide)) (fun cq451 => ?_)
          refine g_aload_n (q := 455) B64 dL_divides_454 rfl 9 rfl ?_
          refine g_iconst (q := 456) B64 dL_divides_455 rfl ?_
          refine g_iconst (q := 457) B64 dL_divides_456 rfl ?_
          refine g_iconst (q := 458) B64 dL_divides_457 rfl ?_
          refine g_iconst (q := 459) B64 dL_divides_458 rfl ?_
          refine g_callN (q := 462) (m1 := 1) (c2 := 22) (As := [.ref (yA Y 72), .int (iI 2), .int (iI 1), .int (iI 0), .int (iI 0)]) (st := []) B64 dL_divides_459 rfl (k_about (Y := Y) (S := S63) hst A63 V6.1 1 ⟨by omega, by omega⟩ 0 0 (x := stt) (hx := (by rw [e6]; exact hstt))) eL_call w179 (by decide) rfl rfl (Nat.le_of_ble_eq_true rfl) (by omega) (Nat.le_trans (show 22 ≤ 40 by omega) E.2.1) (Nat.le_trans (show 6 * (22) ≤ 6 * 40 by omega) E.2.2) (fun v S66 hS66 => ?_)
          obtain ⟨rfl, A66, K66⟩ := hS66
          have D66 := PK_o2 D63 K66
          have B67 := gB_K (c := 22) B64 (Nat.le_trans (show 22 ≤ 40 by omega) E.2.1) (Nat.le_trans (show 6 * (22) ≤ 6 * 40 by omega) E.2.2)
          show gW Y (xK X (22)) S66 462 [(8, .int (iI 1)), (11, .int (iI iz)), (10, .int (iI lf)), (9, .int (iI oth)), (7, .int (iI stt)), (6, .int (iI bs)), (5, .int (iI (pG P 0))), (4, .int (iI sc)), (3, .int (iI fw)), (0, .ref (yA Y 72)), (1, .ref (yA Y 172)), (2, .int (iI x))] [.int (iI stt)]
          refine g_iload (q := 464) B67 dL_divides_462 rfl 4 rfl ?_
          refine g_icmp_ne (t := 484) (q := 467) B67 dL_divides_464 (by decide) rfl ⟨by omega, by omega⟩ ⟨by omega, by omega⟩ (fun cq464 => absurd cq464 (by omega)) (fun cq464 => ?_)
          refine g_aload_n (q := 468) B67 dL_divides_467 rfl 9 rfl ?_
          refine g_bipush (q := 470) B67 dL_divides_468 rfl (by decide) ?_
          refine g_iconst (q := 471) B67 dL_divides_470 rfl ?_
          refine g_iconst (q := 472) B67 dL_divides_471 rfl ?_
          refine g_iconst (q := 473) B67 dL_divides_472 rfl ?_
          refine g_callN (q := 476) (m1 := 1) (c2 := 23) (As := [.ref (yA Y 72), .int (iI 16), .int (iI 0), .int (iI 0), .int (iI 0)]) (st := []) B67 dL_divides_473 rfl (k_fewest (Y := Y) (S := S66) hst A66 V6.1 0 ⟨by omega, by omega⟩ 0 0 (x := fw) (hx := (by rw [e6]; exact hfw))) eL_call w179 (by decide) rfl rfl (Nat.le_of_ble_eq_true rfl) (by omega) (Nat.le_trans (show 23 ≤ 40 by omega) E.2.1) (Nat.le_trans (show 6 * (23) ≤ 6 * 40 by omega) E.2.2) (fun v S68 hS68 => ?_)
          obtain ⟨rfl, A68, K68⟩ := hS68
          have D68 := PK_o2 D66 K68
          have B69 := gB_K (c := 23) B67 (Nat.le_trans (show 23 ≤ 40 by omega) E.2.1) (Nat.le_trans (show 6 * (23) ≤ 6 * 40 by omega) E.2.2)
          show gW Y (xK X (23)) S68 476 [(8, .int (iI 1)), (11, .int (iI iz)), (10, .int (iI lf)), (9, .int (iI oth)), (7, .int (iI stt)), (6, .int (iI bs)), (5, .int (iI (pG P 0))), (4, .int (iI sc)), (3, .int (iI fw)), (0, .ref (yA Y 72)), (1, .ref (yA Y 172)), (2, .int (iI x))] [.int (iI fw)]
          refine g_iload_n (q := 477) B69 dL_divides_476 rfl 8 rfl ?_
          refine g_icmp_ne (t := 484) (q := 480) B69 dL_divides_477 (by decide) rfl ⟨by omega, by omega⟩ ⟨by omega, by omega⟩ (fun cq477 => absurd cq477 (by omega)) (fun cq477 => ?_)
          refine g_iconst (q := 481) B69 dL_divides_480 rfl ?_
          refine g_goto (q := 485) B69 dL_divides_481 (by decide) ?_
          exact gn_zret B69 E (by omega) dL_divides_485 rfl (by decide) ⟨rfl, P6, V6, A68, D68⟩
        · refine g_iload (q := 370) B37 dL_divides_368 rfl 0 rfl ?_
          refine g_iload (q := 372) B37 dL_divides_370 rfl 2 rfl ?_
          refine g_icmp_ne (t := 446) (q := 375) B37 dL_divides_372 (by decide) rfl ⟨by omega, by omega⟩ ⟨by omega, by omega⟩ (fun cq372 => absurd cq372 (by omega)) (fun cq372 => ?_)
          refine g_iload (q := 377) B37 dL_divides_375 rfl 3 rfl ?_
          refine g_iload (q := 379) B37 dL_divides_377 rfl 5 rfl ?_
          refine g_icmp_lt (t := 446) (q := 382) B37 dL_divides_379 (by decide) rfl ⟨by omega, by omega⟩ ⟨by omega, by omega⟩ (fun cq379 => absurd cq379 (by omega)) (fun cq379 => ?_)
          refine g_aload_n (q := 383) B37 dL_divides_382 rfl 9 rfl ?_
          refine g_bipush (q := 385) B37 dL_divides_383 rfl (by decide) ?_
          refine g_iconst (q := 386) B37 dL_divides_385 rfl ?_
          refine g_iconst (q := 387) B37 dL_divides_386 rfl ?_
          refine g_iconst (q := 388) B37 dL_divides_387 rfl ?_
          refine g_callN (q := 391) (m1 := 1) (c2 := 18) (As := [.ref (yA Y 72), .int (iI 15), .int (iI 0), .int (iI 0), .int (iI 0)]) (st := []) B37 dL_divides_388 rfl (k_undo (Y := Y) (S := S36) hst A36 V4.1  0 0 0 (x := pK P4 - 1) (hx := tv_0 (cd_undo0 k4)) (P' := P5) (hP := (if_pos (cd_undo0 k4)).trans hP5)) eL_call w179 (by decide) rfl rfl (Nat.le_of_ble_eq_true rfl) (by omega) (Nat.le_trans (show 18 ≤ 40 by omega) E.2.1) (Nat.le_trans (show 6 * (18) ≤ 6 * 40 by omega) E.2.2) (fun v S70 hS70 => ?_)
          obtain ⟨rfl, A70, K70⟩ := hS70
          have D70 := PK_o2 D36 K70
          have B71 := gB_K (c := 18) B37 (Nat.le_trans (show 18 ≤ 40 by omega) E.2.1) (Nat.le_trans (show 6 * (18) ≤ 6 * 40 by omega) E.2.2)
          show gW Y (xK X (18)) S70 391 [(11, .int (iI iz)), (8, .int (iI 1)), (10, .int (iI lf)), (9, .int (iI oth)), (7, .int (iI stt)), (6, .int (iI bs)), (5, .int (iI (pG P 0))), (4, .int (iI sc)), (3, .int (iI fw)), (0, .ref (yA Y 72)), (1, .ref (yA Y 172)), (2, .int (iI x))] [.int (iI (pK P4 - 1))]
          refine g_callN (q := 394) (m1 := 0) (c2 := 18) (As := [.int (iI (pK P4 - 1))]) (st := []) B71 dL_divides_391 rfl (c_thrown (Y := Y) (S := S70) (pK P4 - 1) ⟨by omega, by omega⟩ (by omega)) eL_thrown w937 (by decide) rfl rfl (Nat.le_of_ble_eq_true rfl) (by omega) (Nat.le_trans (show 18 ≤ 40 by omega) E.2.1) (Nat.le_trans (show 6 * (18) ≤ 6 * 40 by omega) E.2.2) (fun v S72 hS72 => ?_)
          obtain ⟨rfl, eS72⟩ := hS72
          rw [eS72]
          show gW Y (xK X (18)) S70 394 [(11, .int (iI iz)), (8, .int (iI 1)), (10, .int (iI lf)), (9, .int (iI oth)), (7, .int (iI stt)), (6, .int (iI bs)), (5, .int (iI (pG P 0))), (4, .int (iI sc)), (3, .int (iI fw)), (0, .ref (yA Y 72)), (1, .ref (yA Y 172)), (2, .int (iI x))] [.int (iI 0)]
          refine g_if_ne (t := 446) (q := 397) B71 dL_divides_394 (by decide) rfl ⟨by omega, by omega⟩ (fun cq394 => absurd cq394 (by decide)) (fun cq394 => ?_)
          refine g_aload_n (q := 398) B71 dL_divides_397 rfl 10 rfl ?_
          refine g_bipush (q := 400) B71 dL_divides_398 rfl (by decide) ?_
          refine g_iconst (q := 401) B71 dL_divides_400 rfl ?_
          refine g_iconst (q := 402) B71 dL_divides_401 rfl ?_
          refine g_iconst (q := 403) B71 dL_divides_402 rfl ?_
          refine g_callN (q := 406) (m1 := 1) (c2 := 19) (As := [.ref (yA Y 172), .int (iI 15), .int (iI 0), .int (iI 0), .int (iI 0)]) (st := []) B71 dL_divides_403 rfl (gN_sw (k_undo (Y := ySw Y) (S := sS S70) hst D70 V4.1  0 0 0 (x := pK P4 - 1) (hx := tv_0 (cd_undo0 k4)) (P' := P5) (hP := (if_pos (cd_undo0 k4)).trans hP5))) eL_call w179 (by decide) rfl rfl (Nat.le_of_ble_eq_true rfl) (by omega) (Nat.le_trans (show 19 ≤ 40 by omega) E.2.1) (Nat.le_trans (show 6 * (19) ≤ 6 * 40 by omega) E.2.2) (fun v S73 hS73 => ?_)
          obtain ⟨rfl, D73, K73⟩ := hS73
          have A73 := PK_o1 A70 K73
          have B74 := gB_K (c := 19) B71 (Nat.le_trans (show 19 ≤ 40 by omega) E.2.1) (Nat.le_trans (show 6 * (19) ≤ 6 * 40 by omega) E.2.2)
          show gW Y (xK X (19)) S73 406 [(11, .int (iI iz)), (8, .int (iI 1)), (10, .int (iI lf)), (9, .int (iI oth)), (7, .int (iI stt)), (6, .int (iI bs)), (5, .int (iI (pG P 0))), (4, .int (iI sc)), (3, .int (iI fw)), (0, .ref (yA Y 72)), (1, .ref (yA Y 172)), (2, .int (iI x))] [.int (iI (pK P4 - 1))]
          refine g_callN (q := 409) (m1 := 0) (c2 := 19) (As := [.int (iI (pK P4 - 1))]) (st := []) B74 dL_divides_406 rfl (c_thrown (Y := Y) (S := S73) (pK P4 - 1) ⟨by omega, by omega⟩ (by omega)) eL_thrown w937 (by decide) rfl rfl (Nat.le_of_ble_eq_true rfl) (by omega) (Nat.le_trans (show 19 ≤ 40 by omega) E.2.1) (Nat.le_trans (show 6 * (19) ≤ 6 * 40 by omega) E.2.2) (fun v S75 hS75 => ?_)
          obtain ⟨rfl, eS75⟩ := hS75
          rw [eS75]
          show gW Y (xK X (19)) S73 409 [(11, .int (iI iz)), (8, .int (iI 1)), (10, .int (iI lf)), (9, .int (iI oth)), (7, .int (iI stt)), (6, .int (iI bs)), (5, .int (iI (pG P 0))), (4, .int (iI sc)), (3, .int (iI fw)), (0, .ref (yA Y 72)), (1, .ref (yA Y 172)), (2, .int (iI x))] [.int (iI 0)]
          refine g_if_ne (t := 446) (q := 412) B74 dL_divides_409 (by decide) rfl ⟨by omega, by omega⟩ (fun cq409 => absurd cq409 (by decide)) (fun cq409 => ?_)
          refine g_aload_n (q := 413) B74 dL_divides_412 rfl 9 rfl ?_
          refine g_bipush (q := 415) B74 dL_divides_413 rfl (by decide) ?_
          refine g_iconst (q := 416) B74 dL_divides_415 rfl ?_
          refine g_iconst (q := 417) B74 dL_divides_416 rfl ?_
          refine g_iconst (q := 418) B74 dL_divides_417 rfl ?_
          refine g_callN (q := 421) (m1 := 1) (c2 := 20) (As := [.ref (yA Y 72), .int (iI 15), .int (iI 0), .int (iI 0), .int (iI 0)]) (st := []) B74 dL_divides_418 rfl (k_undo (Y := Y) (S := S73) hst A73 V5.1  0 0 0 (x := pK P5 - 1) (hx := tv_0 (cd_undo0 k5)) (P' := P6) (hP := (if_pos (cd_undo0 k5)).trans hP6)) eL_call w179 (by decide) rfl rfl (Nat.le_of_ble_eq_true rfl) (by omega) (Nat.le_trans (show 20 ≤ 40 by omega) E.2.1) (Nat.le_trans (show 6 * (20) ≤ 6 * 40 by omega) E.2.2) (fun v S76 hS76 => ?_)
          obtain ⟨rfl, A76, K76⟩ := hS76
          have D76 := PK_o2 D73 K76
          have B77 := gB_K (c := 20) B74 (Nat.le_trans (show 20 ≤ 40 by omega) E.2.1) (Nat.le_trans (show 6 * (20) ≤ 6 * 40 by omega) E.2.2)
          show gW Y (xK X (20)) S76 421 [(11, .int (iI iz)), (8, .int (iI 1)), (10, .int (iI lf)), (9, .int (iI oth)), (7, .int (iI stt)), (6, .int (iI bs)), (5, .int (iI (pG P 0))), (4, .int (iI sc)), (3, .int (iI fw)), (0, .ref (yA Y 72)), (1, .ref (yA Y 172)), (2, .int (iI x))] [.int (iI (pK P5 - 1))]
          refine g_callN (q := 424) (m1 := 0) (c2 := 20) (As := [.int (iI (pK P5 - 1))]) (st := []) B77 dL_divides_421 rfl (c_thrown (Y := Y) (S := S76) (pK P5 - 1) ⟨by omega, by omega⟩ (by omega)) eL_thrown w937 (by decide) rfl rfl (Nat.le_of_ble_eq_true rfl) (by omega) (Nat.le_trans (show 20 ≤ 40 by omega) E.2.1) (Nat.le_trans (show 6 * (20) ≤ 6 * 40 by omega) E.2.2) (fun v S78 hS78 => ?_)
          obtain ⟨rfl, eS78⟩ := hS78
          rw [eS78]
          show gW Y (xK X (20)) S76 424 [(11, .int (iI iz)), (8, .int (iI 1)), (10, .int (iI lf)), (9, .int (iI oth)), (7, .int (iI stt)), (6, .int (iI bs)), (5, .int (iI (pG P 0))), (4, .int (iI sc)), (3, .int (iI fw)), (0, .ref (yA Y 72)), (1, .ref (yA Y 172)), (2, .int (iI x))] [.int (iI 0)]
          refine g_if_ne (t := 446) (q := 427) B77 dL_divides_424 (by decide) rfl ⟨by omega, by omega⟩ (fun cq424 => absurd cq424 (by decide)) (fun cq424 => ?_)
          refine g_aload_n (q := 428) B77 dL_divides_427 rfl 10 rfl ?_
          refine g_bipush (q := 430) B77 dL_divides_428 rfl (by decide) ?_
          refine g_iconst (q := 431) B77 dL_divides_430 rfl ?_
          refine g_iconst (q := 432) B77 dL_divides_431 rfl ?_
          refine g_iconst (q := 433) B77 dL_divides_432 rfl ?_
          refine g_callN (q := 436) (m1 := 1) (c2 := 21) (As := [.ref (yA Y 172), .int (iI 15), .int (iI 0), .int (iI 0), .int (iI 0)]) (st := []) B77 dL_divides_433 rfl (gN_sw (k_undo (Y := ySw Y) (S := sS S76) hst D76 V5.1  0 0 0 (x := pK P5 - 1) (hx := tv_0 (cd_undo0 k5)) (P' := P6) (hP := (if_pos (cd_undo0 k5)).trans hP6))) eL_call w179 (by decide) rfl rfl (Nat.le_of_ble_eq_true rfl) (by omega) (Nat.le_trans (show 21 ≤ 40 by omega) E.2.1) (Nat.le_trans (show 6 * (21) ≤ 6 * 40 by omega) E.2.2) (fun v S79 hS79 => ?_)
          obtain ⟨rfl, D79, K79⟩ := hS79
          have A79 := PK_o1 A76 K79
          have B80 := gB_K (c := 21) B77 (Nat.le_trans (show 21 ≤ 40 by omega) E.2.1) (Nat.le_trans (show 6 * (21) ≤ 6 * 40 by omega) E.2.2)
          show gW Y (xK X (21)) S79 436 [(11, .int (iI iz)), (8, .int (iI 1)), (10, .int (iI lf)), (9, .int (iI oth)), (7, .int (iI stt)), (6, .int (iI bs)), (5, .int (iI (pG P 0))), (4, .int (iI sc)), (3, .int (iI fw)), (0, .ref (yA Y 72)), (1, .ref (yA Y 172)), (2, .int (iI x))] [.int (iI (pK P5 - 1))]
          refine g_callN (q := 439) (m1 := 0) (c2 := 21) (As := [.int (iI (pK P5 - 1))]) (st := []) B80 dL_divides_436 rfl (c_thrown (Y := Y) (S := S79) (pK P5 - 1) ⟨by omega, by omega⟩ (by omega)) eL_thrown w937 (by decide) rfl rfl (Nat.le_of_ble_eq_true rfl) (by omega) (Nat.le_trans (show 21 ≤ 40 by omega) E.2.1) (Nat.le_trans (show 6 * (21) ≤ 6 * 40 by omega) E.2.2) (fun v S81 hS81 => ?_)
          obtain ⟨rfl, eS81⟩ := hS81
          rw [eS81]
          show gW Y (xK X (21)) S79 439 [(11, .int (iI iz)), (8, .int (iI 1)), (10, .int (iI lf)), (9, .int (iI oth)), (7, .int (iI stt)), (6, .int (iI bs)), (5, .int (iI (pG P 0))), (4, .int (iI sc)), (3, .int (iI fw)), (0, .ref (yA Y 72)), (1, .ref (yA Y 172)), (2, .int (iI x))] [.int (iI 0)]
          refine g_if_ne (t := 446) (q := 442) B80 dL_divides_439 (by decide) rfl ⟨by omega, by omega⟩ (fun cq439 => absurd cq439 (by decide)) (fun cq439 => ?_)
          refine g_iconst (q := 443) B80 dL_divides_442 rfl ?_
          refine g_goto (q := 447) B80 dL_divides_443 (by decide) ?_
          refine g_istore (q := 449) B80 dL_divides_447 rfl (by decide) (L' := [(8, .int (iI 1)), (11, .int (iI iz)), (10, .int (iI lf)), (9, .int (iI oth)), (7, .int (iI stt)), (6, .int (iI bs)), (5, .int (iI (pG P 0))), (4, .int (iI sc)), (3, .int (iI fw)), (0, .ref (yA Y 72)), (1, .ref (yA Y 172)), (2, .int (iI x))]) rfl ?_
          refine g_iload (q := 451) B80 dL_divides_449 rfl 0 rfl ?_
          refine g_if_eq (t := 484) (q := 454) B80 dL_divides_451 (by decide) rfl ⟨by omega, by omega⟩ (fun cq451 => absurd cq451 (by decide)) (fun cq451 => ?_)
          refine g_aload_n (q := 455) B80 dL_divides_454 rfl 9 rfl ?_
          refine g_iconst (q := 456) B80 dL_divides_455 rfl ?_
          refine g_iconst (q := 457) B80 dL_divides_456 rfl ?_
          refine g_iconst (q := 458) B80 dL_divides_457 rfl ?_
          refine g_iconst (q := 459) B80 dL_divides_458 rfl ?_
          refine g_callN (q := 462) (m1 := 1) (c2 := 22) (As := [.ref (yA Y 72), .int (iI 2), .int (iI 1), .int (iI 0), .int (iI 0)]) (st := []) B80 dL_divides_459 rfl (k_about (Y := Y) (S := S79) hst A79 V6.1 1 ⟨by omega, by omega⟩ 0 0 (x := stt) (hx := (by rw [e6]; exact hstt))) eL_call w179 (by decide) rfl rfl (Nat.le_of_ble_eq_true rfl) (by omega) (Nat.le_trans (show 22 ≤ 40 by omega) E.2.1) (Nat.le_trans (show 6 * (22) ≤ 6 * 40 by omega) E.2.2) (fun v S82 hS82 => ?_)
          obtain ⟨rfl, A82, K82⟩ := hS82
          have D82 := PK_o2 D79 K82
          have B83 := gB_K (c := 22) B80 (Nat.le_trans (show 22 ≤ 40 by omega) E.2.1) (Nat.le_trans (show 6 * (22) ≤ 6 * 40 by omega) E.2.2)
          show gW Y (xK X (22)) S82 462 [(8, .int (iI 1)), (11, .int (iI iz)), (10, .int (iI lf)), (9, .int (iI oth)), (7, .int (iI stt)), (6, .int (iI bs)), (5, .int (iI (pG P 0))), (4, .int (iI sc)), (3, .int (iI fw)), (0, .ref (yA Y 72)), (1, .ref (yA Y 172)), (2, .int (iI x))] [.int (iI stt)]
          refine g_iload (q := 464) B83 dL_divides_462 rfl 4 rfl ?_
          refine g_icmp_ne (t := 484) (q := 467) B83 dL_divides_464 (by decide) rfl ⟨by omega, by omega⟩ ⟨by omega, by omega⟩ (fun cq464 => absurd cq464 (by omega)) (fun cq464 => ?_)
          refine g_aload_n (q := 468) B83 dL_divides_467 rfl 9 rfl ?_
          refine g_bipush (q := 470) B83 dL_divides_468 rfl (by decide) ?_
          refine g_iconst (q := 471) B83 dL_divides_470 rfl ?_
          refine g_iconst (q := 472) B83 dL_divides_471 rfl ?_
          refine g_iconst (q := 473) B83 dL_divides_472 rfl ?_
          refine g_callN (q := 476) (m1 := 1) (c2 := 23) (As := [.ref (yA Y 72), .int (iI 16), .int (iI 0), .int (iI 0), .int (iI 0)]) (st := []) B83 dL_divides_473 rfl (k_fewest (Y := Y) (S := S82) hst A82 V6.1 0 ⟨by omega, by omega⟩ 0 0 (x := fw) (hx := (by rw [e6]; exact hfw))) eL_call w179 (by decide) rfl rfl (Nat.le_of_ble_eq_true rfl) (by omega) (Nat.le_trans (show 23 ≤ 40 by omega) E.2.1) (Nat.le_trans (show 6 * (23) ≤ 6 * 40 by omega) E.2.2) (fun v S84 hS84 => ?_)
          obtain ⟨rfl, A84, K84⟩ := hS84
          have D84 := PK_o2 D82 K84
          have B85 := gB_K (c := 23) B83 (Nat.le_trans (show 23 ≤ 40 by omega) E.2.1) (Nat.le_trans (show 6 * (23) ≤ 6 * 40 by omega) E.2.2)
          show gW Y (xK X (23)) S84 476 [(8, .int (iI 1)), (11, .int (iI iz)), (10, .int (iI lf)), (9, .int (iI oth)), (7, .int (iI stt)), (6, .int (iI bs)), (5, .int (iI (pG P 0))), (4, .int (iI sc)), (3, .int (iI fw)), (0, .ref (yA Y 72)), (1, .ref (yA Y 172)), (2, .int (iI x))] [.int (iI fw)]
          refine g_iload_n (q := 477) B85 dL_divides_476 rfl 8 rfl ?_
          refine g_icmp_ne (t := 484) (q := 480) B85 dL_divides_477 (by decide) rfl ⟨by omega, by omega⟩ ⟨by omega, by omega⟩ (fun cq477 => absurd cq477 (by omega)) (fun cq477 => ?_)
          refine g_iconst (q := 481) B85 dL_divides_480 rfl ?_
          refine g_goto (q := 485) B85 dL_divides_481 (by decide) ?_
          exact gn_zret B85 E (by omega) dL_divides_485 rfl (by decide) ⟨rfl, P6, V6, A84, D84⟩
    · refine g_aload_n (q := 166) B19 dL_divides_165 rfl 6 rfl ?_
      refine g_iconst (q := 167) B19 dL_divides_166 rfl ?_
      refine g_iconst (q := 168) B19 dL_divides_167 rfl ?_
      refine g_iconst (q := 169) B19 dL_divides_168 rfl ?_
      refine g_iconst (q := 170) B19 dL_divides_169 rfl ?_
      refine g_callN (q := 173) (m1 := 1) (c2 := 10) (As := [.ref (yA Y 72), .int (iI 5), .int (iI 2), .int (iI 0), .int (iI 0)]) (st := []) B19 dL_divides_170 rfl (k_runOf (Y := Y) (S := S18) hst A18 V1.1 2 ⟨by omega, by omega⟩ 0 ⟨by omega, by omega⟩ 0 (x := sc) (hx := (by rw [e1]; exact (tv_0 ((if_pos ⟨by decide, by rw [dg.2.2.2.2.2.1]; omega⟩).trans (if_pos (by decide)))).trans ((dg.2.2.2.2.2.2.2 (by omega)).trans (rsc (by omega)).1.symm)))) eL_call w179 (by decide) rfl rfl (Nat.le_of_ble_eq_true rfl) (by omega) (Nat.le_trans (show 10 ≤ 40 by omega) E.2.1) (Nat.le_trans (show 6 * (10) ≤ 6 * 40 by omega) E.2.2) (fun v S86 hS86 => ?_)
      obtain ⟨rfl, A86, K86⟩ := hS86
      have D86 := PK_o2 D18 K86
      have B87 := gB_K (c := 10) B19 (Nat.le_trans (show 10 ≤ 40 by omega) E.2.1) (Nat.le_trans (show 6 * (10) ≤ 6 * 40 by omega) E.2.2)
      show gW Y (xK X (10)) S86 173 [(8, .int (iI 1)), (7, .int (iI stt)), (6, .int (iI bs)), (5, .int (iI (pG P 0))), (4, .int (iI sc)), (3, .int (iI fw)), (0, .ref (yA Y 72)), (1, .ref (yA Y 172)), (2, .int (iI x))] [.int (iI sc)]
      refine g_iload (q := 175) B87 dL_divides_173 rfl 4 rfl ?_
      refine g_icmp_ne (t := 212) (q := 178) B87 dL_divides_175 (by decide) rfl ⟨by omega, by omega⟩ ⟨by omega, by omega⟩ (fun cq175 => absurd cq175 (by omega)) (fun cq175 => ?_)
      refine g_aload_n (q := 179) B87 dL_divides_178 rfl 6 rfl ?_
      refine g_bipush (q := 181) B87 dL_divides_179 rfl (by decide) ?_
      refine g_iconst (q := 182) B87 dL_divides_181 rfl ?_
      refine g_iconst (q := 183) B87 dL_divides_182 rfl ?_
      refine g_iconst (q := 184) B87 dL_divides_183 rfl ?_
      refine g_callN (q := 187) (m1 := 1) (c2 := 11) (As := [.ref (yA Y 72), .int (iI 15), .int (iI 0), .int (iI 0), .int (iI 0)]) (st := []) B87 dL_divides_184 rfl (k_undo (Y := Y) (S := S86) hst A86 V1.1  0 0 0 (x := pK P1 - 1) (hx := tv_0 (cd_undo0 k1)) (P' := Pa) (hP := (if_pos (cd_undo0 k1)).trans hPa)) eL_call w179 (by decide) rfl rfl (Nat.le_of_ble_eq_true rfl) (by omega) (Nat.le_trans (show 11 ≤ 40 by omega) E.2.1) (Nat.le_trans (show 6 * (11) ≤ 6 * 40 by omega) E.2.2) (fun v S88 hS88 => ?_)
      obtain ⟨rfl, A88, K88⟩ := hS88
      have D88 := PK_o2 D86 K88
      have B89 := gB_K (c := 11) B87 (Nat.le_trans (show 11 ≤ 40 by omega) E.2.1) (Nat.le_trans (show 6 * (11) ≤ 6 * 40 by omega) E.2.2)
      show gW Y (xK X (11)) S88 187 [(8, .int (iI 1)), (7, .int (iI stt)), (6, .int (iI bs)), (5, .int (iI (pG P 0))), (4, .int (iI sc)), (3, .int (iI fw)), (0, .ref (yA Y 72)), (1, .ref (yA Y 172)), (2, .int (iI x))] [.int (iI (pK P1 - 1))]
      refine g_callN (q := 190) (m1 := 0) (c2 := 11) (As := [.int (iI (pK P1 - 1))]) (st := []) B89 dL_divides_187 rfl (c_thrown (Y := Y) (S := S88) (pK P1 - 1) ⟨by omega, by omega⟩ (by omega)) eL_thrown w937 (by decide) rfl rfl (Nat.le_of_ble_eq_true rfl) (by omega) (Nat.le_trans (show 11 ≤ 40 by omega) E.2.1) (Nat.le_trans (show 6 * (11) ≤ 6 * 40 by omega) E.2.2) (fun v S90 hS90 => ?_)
      obtain ⟨rfl, eS90⟩ := hS90
      rw [eS90]
      show gW Y (xK X (11)) S88 190 [(8, .int (iI 1)), (7, .int (iI stt)), (6, .int (iI bs)), (5, .int (iI (pG P 0))), (4, .int (iI sc)), (3, .int (iI fw)), (0, .ref (yA Y 72)), (1, .ref (yA Y 172)), (2, .int (iI x))] [.int (iI 0)]
      refine g_if_ne (t := 212) (q := 193) B89 dL_divides_190 (by decide) rfl ⟨by omega, by omega⟩ (fun cq190 => absurd cq190 (by decide)) (fun cq190 => ?_)
      refine g_aload_n (q := 194) B89 dL_divides_193 rfl 7 rfl ?_
      refine g_bipush (q := 196) B89 dL_divides_194 rfl (by decide) ?_
      refine g_iconst (q := 197) B89 dL_divides_196 rfl ?_
      refine g_iconst (q := 198) B89 dL_divides_197 rfl ?_
      refine g_iconst (q := 199) B89 dL_divides_198 rfl ?_
      refine g_callN (q := 202) (m1 := 1) (c2 := 12) (As := [.ref (yA Y 172), .int (iI 15), .int (iI 0), .int (iI 0), .int (iI 0)]) (st := []) B89 dL_divides_199 rfl (gN_sw (k_undo (Y := ySw Y) (S := sS S88) hst D88 V1.1  0 0 0 (x := pK P1 - 1) (hx := tv_0 (cd_undo0 k1)) (P' := Pa) (hP := (if_pos (cd_undo0 k1)).trans hPa))) eL_call w179 (by decide) rfl rfl (Nat.le_of_ble_eq_true rfl) (by omega) (Nat.le_trans (show 12 ≤ 40 by omega) E.2.1) (Nat.le_trans (show 6 * (12) ≤ 6 * 40 by omega) E.2.2) (fun v S91 hS91 => ?_)
      obtain ⟨rfl, D91, K91⟩ := hS91
      have A91 := PK_o1 A88 K91
      have B92 := gB_K (c := 12) B89 (Nat.le_trans (show 12 ≤ 40 by omega) E.2.1) (Nat.le_trans (show 6 * (12) ≤ 6 * 40 by omega) E.2.2)
      show gW Y (xK X (12)) S91 202 [(8, .int (iI 1)), (7, .int (iI stt)), (6, .int (iI bs)), (5, .int (iI (pG P 0))), (4, .int (iI sc)), (3, .int (iI fw)), (0, .ref (yA Y 72)), (1, .ref (yA Y 172)), (2, .int (iI x))] [.int (iI (pK P1 - 1))]
      refine g_callN (q := 205) (m1 := 0) (c2 := 12) (As := [.int (iI (pK P1 - 1))]) (st := []) B92 dL_divides_202 rfl (c_thrown (Y := Y) (S := S91) (pK P1 - 1) ⟨by omega, by omega⟩ (by omega)) eL_thrown w937 (by decide) rfl rfl (Nat.le_of_ble_eq_true rfl) (by omega) (Nat.le_trans (show 12 ≤ 40 by omega) E.2.1) (Nat.le_trans (show 6 * (12) ≤ 6 * 40 by omega) E.2.2) (fun v S93 hS93 => ?_)
      obtain ⟨rfl, eS93⟩ := hS93
      rw [eS93]
      show gW Y (xK X (12)) S91 205 [(8, .int (iI 1)), (7, .int (iI stt)), (6, .int (iI bs)), (5, .int (iI (pG P 0))), (4, .int (iI sc)), (3, .int (iI fw)), (0, .ref (yA Y 72)), (1, .ref (yA Y 172)), (2, .int (iI x))] [.int (iI 0)]
      refine g_if_ne (t := 212) (q := 208) B92 dL_divides_205 (by decide) rfl ⟨by omega, by omega⟩ (fun cq205 => absurd cq205 (by decide)) (fun cq205 => ?_)
      refine g_iconst (q := 209) B92 dL_divides_208 rfl ?_
      refine g_goto (q := 213) B92 dL_divides_209 (by decide) ?_
      refine g_istore (q := 215) B92 dL_divides_213 rfl (by decide) (L' := [(8, .int (iI 1)), (7, .int (iI stt)), (6, .int (iI bs)), (5, .int (iI (pG P 0))), (4, .int (iI sc)), (3, .int (iI fw)), (0, .ref (yA Y 72)), (1, .ref (yA Y 172)), (2, .int (iI x))]) rfl ?_
      refine g_iload (q := 217) B92 dL_divides_215 rfl 2 rfl ?_
      refine g_iconst (q := 218) B92 dL_divides_217 rfl ?_
      refine g_icmp_eq (t := 449) (q := 221) B92 dL_divides_218 (by decide) rfl ⟨by omega, by omega⟩ ⟨by omega, by omega⟩ (fun cq218 => absurd cq218 (by exact fun z => hno (bb.1 z))) (fun cq218 => ?_)
      have hnb : bs ≠ -1 := fun z => hno (bb.1 z)
      have bz := bb.2 hnb
      obtain ⟨lf, hlf⟩ : ∃ z : Int, fewF (brkG (pG P) bs) = z := ⟨_, rfl⟩
      have lr := few_in (brkG (pG P) bs)
      rw [hlf] at bz lr
      obtain ⟨P3, hP3⟩ : ∃ z : PT, pPush Pa (brkG (pG P) bs) = z := ⟨_, rfl⟩
      have e3 : pG P3 = brkG (pG P) bs := by rw [← hP3]; rfl
      have n3 : brkG (pG P) bs 0 = pG P 0 := n_brk bs
      have w3 := wf_brkG hw bs
      have b3 : brkG (pG P) bs 1 = bs := by
        have h1 : brkG (pG P) bs = brkF (pG P) bs := if_pos bz.1
        rw [h1]; rfl
      have V3 : OK P3 := by rw [← hP3]; exact ok_push0 Va w3 (by rw [ea]; exact n3)
      have b4 := bz.2.2.2 oth m1.1 m1.2
      obtain ⟨iz, hiz⟩ : ∃ z : Int, fewF (brkG (brkG (pG P) bs) oth) = z := ⟨_, rfl⟩
      have ir := few_in (brkG (brkG (pG P) bs) oth)
      rw [hiz] at b4 ir
      obtain ⟨P4, hP4⟩ : ∃ z : PT, pPush P3 (brkG (brkG (pG P) bs) oth) = z := ⟨_, rfl⟩
      have e4 : pG P4 = brkG (brkG (pG P) bs) oth := by rw [← hP4]; rfl
      have n4 : brkG (brkG (pG P) bs) oth 0 = pG P3 0 := by rw [e3]; exact n_brk oth
      have w4 := wf_brkG w3 oth
      have V4 : OK P4 := by rw [← hP4]; exact ok_push0 V3 w4 n4
      have k4 : 1 < pK P4 := by rw [← hP4, ← hP3]; exact pK_2 Pa _ _ Va.1
      have k4b := V4.1.2.2.1
      have k4 : 0 < pK P4 := by omega
      obtain ⟨P5, hP5⟩ : ∃ z : PT, pUndo P4 = z := ⟨_, rfl⟩
      have V5 : OK P5 := by rw [← hP5, ← hP4]; exact ok_un V3 w4 n4
      have k5 : pK P5 = pK P4 - 1 := by rw [← hP5]; rfl
      have k5b := V5.1.2.2.1
      have k5 : 0 < pK P5 := by rw [k5, ← hP4, ← hP3]; have := pK_2 Pa (brkG (pG P) bs) (brkG (brkG (pG P) bs) oth) Va.1; omega
      obtain ⟨P6, hP6⟩ : ∃ z : PT, pUndo P5 = z := ⟨_, rfl⟩
      have e6 : pG P6 = pG P := by rw [← hP6, ← hP5, ← hP4, ← hP3]; exact (un_2 Pa _ _ Va.1).trans ea
      have V6 : OK P6 := by
        have h6 : 4 ≤ pG P6 0 := by rw [e6]; exact C.1
        rw [← hP6] at h6 ⊢
        exact ok_undo V5 k5 h6
      refine g_iload (q := 223) B92 dL_divides_221 rfl 0 rfl ?_
      refine g_if_eq (t := 449) (q := 226) B92 dL_divides_223 (by decide) rfl ⟨by omega, by omega⟩ (fun cq223 => absurd cq223 (by decide)) (fun cq223 => ?_)
      refine g_iload_n (q := 227) B92 dL_divides_226 rfl 8 rfl ?_
      refine g_iload (q := 229) B92 dL_divides_227 rfl 3 rfl ?_
      refine g_irem (q := 230) B92 dL_divides_229 rfl (by omega) (by omega) (by omega) (by omega) ?_
      refine g_eqT (st' := [.int (iI oth)]) (by rw [hoth]) ?_
      refine g_istore (q := 232) B92 dL_divides_230 rfl (by decide) (L' := [(9, .int (iI oth)), (8, .int (iI 1)), (7, .int (iI stt)), (6, .int (iI bs)), (5, .int (iI (pG P 0))), (4, .int (iI sc)), (3, .int (iI fw)), (0, .ref (yA Y 72)), (1, .ref (yA Y 172)), (2, .int (iI x))]) rfl ?_
      refine g_aload_n (q := 233) B92 dL_divides_232 rfl 7 rfl ?_
      refine g_bipush (q := 235) B92 dL_divides_233 rfl (by decide) ?_
      refine g_iload (q := 237) B92 dL_divides_235 rfl 3 rfl ?_
      refine g_iconst (q := 238) B92 dL_divides_237 rfl ?_
      refine g_iconst (q := 239) B92 dL_divides_238 rfl ?_
      refine g_callN (q := 242) (m1 := 1) (c2 := 13) (As := [.ref (yA Y 72), .int (iI 9), .int (iI bs), .int (iI 0), .int (iI 0)]) (st := []) B92 dL_divides_239 rfl (k_breakAt (Y := Y) (S := S91) hst A91 Va.1 bs ⟨by omega, by omega⟩ 0 0 (x := stt) (hx := (by rw [ea]; exact (tv_0 (cd_brk0 bz.1.1 bz.1.2)).trans hstt)) (P' := P3) (hP := (by rw [ea]; exact (if_pos (cd_brk0 bz.1.1 bz.1.2)).trans hP3))) eL_call w179 (by decide) rfl rfl (Nat.le_of_ble_eq_true rfl) (by omega) (Nat.le_trans (show 13 ≤ 40 by omega) E.2.1) (Nat.le_trans (show 6 * (13) ≤ 6 * 40 by omega) E.2.2) (fun v S94 hS94 => ?_)
      obtain ⟨rfl, A94, K94⟩ := hS94
      have D94 := PK_o2 D91 K94
      have B95 := gB_K (c := 13) B92 (Nat.le_trans (show 13 ≤ 40 by omega) E.2.1) (Nat.le_trans (show 6 * (13) ≤ 6 * 40 by omega) E.2.2)
      show gW Y (xK X (13)) S94 242 [(9, .int (iI oth)), (8, .int (iI 1)), (7, .int (iI stt)), (6, .int (iI bs)), (5, .int (iI (pG P 0))), (4, .int (iI sc)), (3, .int (iI fw)), (0, .ref (yA Y 72)), (1, .ref (yA Y 172)), (2, .int (iI x))] [.int (iI stt)]
      refine g_iload (q := 244) B95 dL_divides_242 rfl 2 rfl ?_
      refine g_icmp_ne (t := 266) (q := 247) B95 dL_divides_244 (by decide) rfl ⟨by omega, by omega⟩ ⟨by omega, by omega⟩ (fun cq244 => absurd cq244 (by omega)) (fun cq244 => ?_)
      refine g_aload_n (q := 248) B95 dL_divides_247 rfl 8 rfl ?_
      refine g_bipush (q := 250) B95 dL_divides_248 rfl (by decide) ?_
      refine g_iload (q := 252) B95 dL_divides_250 rfl 3 rfl ?_
      refine g_iconst (q := 253) B95 dL_divides_252 rfl ?_
      refine g_iconst (q := 254) B95 dL_divides_253 rfl ?_
      refine g_callN (q := 257) (m1 := 1) (c2 := 14) (As := [.ref (yA Y 172), .int (iI 9), .int (iI bs), .int (iI 0), .int (iI 0)]) (st := []) B95 dL_divides_254 rfl (gN_sw (k_breakAt (Y := ySw Y) (S := sS S94) hst D94 Va.1 bs ⟨by omega, by omega⟩ 0 0 (x := stt) (hx := (by rw [ea]; exact (tv_0 (cd_brk0 bz.1.1 bz.1.2)).trans hstt)) (P' := P3) (hP := (by rw [ea]; exact (if_pos (cd_brk0 bz.1.1 bz.1.2)).trans hP3)))) eL_call w179 (by decide) rfl rfl (Nat.le_of_ble_eq_true rfl) (by omega) (Nat.le_trans (show 14 ≤ 40 by omega) E.2.1) (Nat.le_trans (show 6 * (14) ≤ 6 * 40 by omega) E.2.2) (fun v S96 hS96 => ?_)
      obtain ⟨rfl, D96, K96⟩ := hS96
      have A96 := PK_o1 A94 K96
      have B97 := gB_K (c := 14) B95 (Nat.le_trans (show 14 ≤ 40 by omega) E.2.1) (Nat.le_trans (show 6 * (14) ≤ 6 * 40 by omega) E.2.2)
      show gW Y (xK X (14)) S96 257 [(9, .int (iI oth)), (8, .int (iI 1)), (7, .int (iI stt)), (6, .int (iI bs)), (5, .int (iI (pG P 0))), (4, .int (iI sc)), (3, .int (iI fw)), (0, .ref (yA Y 72)), (1, .ref (yA Y 172)), (2, .int (iI x))] [.int (iI stt)]
      refine g_iload (q := 259) B97 dL_divides_257 rfl 2 rfl ?_
      refine g_icmp_ne (t := 266) (q := 262) B97 dL_divides_259 (by decide) rfl ⟨by omega, by omega⟩ ⟨by omega, by omega⟩ (fun cq259 => absurd cq259 (by omega)) (fun cq259 => ?_)
      refine g_iconst (q := 263) B97 dL_divides_262 rfl ?_
      refine g_goto (q := 267) B97 dL_divides_263 (by decide) ?_
      refine g_istore (q := 269) B97 dL_divides_267 rfl (by decide) (L' := [(8, .int (iI 1)), (9, .int (iI oth)), (7, .int (iI stt)), (6, .int (iI bs)), (5, .int (iI (pG P 0))), (4, .int (iI sc)), (3, .int (iI fw)), (0, .ref (yA Y 72)), (1, .ref (yA Y 172)), (2, .int (iI x))]) rfl ?_
      refine g_aload_n (q := 270) B97 dL_divides_269 rfl 7 rfl ?_
      refine g_bipush (q := 272) B97 dL_divides_270 rfl (by decide) ?_
      refine g_iconst (q := 273) B97 dL_divides_272 rfl ?_
      refine g_iconst (q := 274) B97 dL_divides_273 rfl ?_
      refine g_iconst (q := 275) B97 dL_divides_274 rfl ?_
      refine g_callN (q := 278) (m1 := 1) (c2 := 15) (As := [.ref (yA Y 72), .int (iI 16), .int (iI 0), .int (iI 0), .int (iI 0)]) (st := []) B97 dL_divides_275 rfl (k_fewest (Y := Y) (S := S96) hst A96 V3.1 0 ⟨by omega, by omega⟩ 0 0 (x := lf) (hx := (by rw [e3]; exact hlf))) eL_call w179 (by decide) rfl rfl (Nat.le_of_ble_eq_true rfl) (by omega) (Nat.le_trans (show 15 ≤ 40 by omega) E.2.1) (Nat.le_trans (show 6 * (15) ≤ 6 * 40 by omega) E.2.2) (fun v S98 hS98 => ?_)
      obtain ⟨rfl, A98, K98⟩ := hS98
      have D98 := PK_o2 D96 K98
      have B99 := gB_K (c := 15) B97 (Nat.le_trans (show 15 ≤ 40 by omega) E.2.1) (Nat.le_trans (show 6 * (15) ≤ 6 * 40 by omega) E.2.2)
      show gW Y (xK X (15)) S98 278 [(8, .int (iI 1)), (9, .int (iI oth)), (7, .int (iI stt)), (6, .int (iI bs)), (5, .int (iI (pG P 0))), (4, .int (iI sc)), (3, .int (iI fw)), (0, .ref (yA Y 72)), (1, .ref (yA Y 172)), (2, .int (iI x))] [.int (iI lf)]
      refine g_istore (q := 280) B99 dL_divides_278 rfl (by decide) (L' := [(10, .int (iI lf)), (8, .int (iI 1)), (9, .int (iI oth)), (7, .int (iI stt)), (6, .int (iI bs)), (5, .int (iI (pG P 0))), (4, .int (iI sc)), (3, .int (iI fw)), (0, .ref (yA Y 72)), (1, .ref (yA Y 172)), (2, .int (iI x))]) rfl ?_
      refine g_iload (q := 282) B99 dL_divides_280 rfl 1 rfl ?_
      refine g_if_eq (t := 336) (q := 285) B99 dL_divides_282 (by decide) rfl ⟨by omega, by omega⟩ (fun cq282 => absurd cq282 (by decide)) (fun cq282 => ?_)
      refine g_iload (q := 287) B99 dL_divides_285 rfl 0 rfl ?_
      refine g_iconst (q := 288) B99 dL_divides_287 rfl ?_
      refine g_icmp_eq (t := 336) (q := 291) B99 dL_divides_288 (by decide) rfl ⟨by omega, by omega⟩ ⟨by omega, by omega⟩ (fun cq288 => absurd cq288 (by omega)) (fun cq288 => ?_)
      refine g_iload_n (q := 292) B99 dL_divides_291 rfl 7 rfl ?_
      refine g_iconst (q := 293) B99 dL_divides_292 rfl ?_
      refine g_icmp_eq (t := 302) (q := 296) B99 dL_divides_293 (by decide) rfl ⟨by omega, by omega⟩ ⟨by omega, by omega⟩ (fun cq293 => absurd cq293 (by omega)) (fun cq293 => ?_)
      refine g_iload (q := 298) B99 dL_divides_296 rfl 0 rfl ?_
      refine g_iload_n (q := 299) B99 dL_divides_298 rfl 7 rfl ?_
      refine g_icmp_gt (t := 336) (q := 302) B99 dL_divides_299 (by decide) rfl ⟨by omega, by omega⟩ ⟨by omega, by omega⟩ (fun cq299 => absurd cq299 (by omega)) (fun cq299 => ?_)
      refine g_aload_n (q := 303) B99 dL_divides_302 rfl 8 rfl ?_
      refine g_bipush (q := 305) B99 dL_divides_303 rfl (by decide) ?_
      refine g_iload (q := 307) B99 dL_divides_305 rfl 2 rfl ?_
      refine g_iconst (q := 308) B99 dL_divides_307 rfl ?_
      refine g_iconst (q := 309) B99 dL_divides_308 rfl ?_
      refine g_callN (q := 312) (m1 := 1) (c2 := 16) (As := [.ref (yA Y 72), .int (iI 9), .int (iI oth), .int (iI 0), .int (iI 0)]) (st := []) B99 dL_divides_309 rfl (k_breakAt (Y := Y) (S := S98) hst A98 V3.1 oth ⟨by omega, by omega⟩ 0 0 (x := bs) (hx := (by rw [e3]; exact (tv_0 (cd_brk0 m1.1 (by rw [n3]; exact m1.2))).trans b3)) (P' := P4) (hP := (by rw [e3]; exact (if_pos (cd_brk0 m1.1 (by rw [n3]; exact m1.2))).trans hP4))) eL_call w179 (by decide) rfl rfl (Nat.le_of_ble_eq_true rfl) (by omega) (Nat.le_trans (show 16 ≤ 40 by omega) E.2.1) (Nat.le_trans (show 6 * (16) ≤ 6 * 40 by omega) E.2.2) (fun v S100 hS100 => ?_)
      obtain ⟨rfl, A100, K100⟩ := hS100
      have D100 := PK_o2 D98 K100
      have B101 := gB_K (c := 16) B99 (Nat.le_trans (show 16 ≤ 40 by omega) E.2.1) (Nat.le_trans (show 6 * (16) ≤ 6 * 40 by omega) E.2.2)
      show gW Y (xK X (16)) S100 312 [(10, .int (iI lf)), (8, .int (iI 1)), (9, .int (iI oth)), (7, .int (iI stt)), (6, .int (iI bs)), (5, .int (iI (pG P 0))), (4, .int (iI sc)), (3, .int (iI fw)), (0, .ref (yA Y 72)), (1, .ref (yA Y 172)), (2, .int (iI x))] [.int (iI bs)]
      refine g_iload (q := 314) B101 dL_divides_312 rfl 4 rfl ?_
      refine g_icmp_ne (t := 336) (q := 317) B101 dL_divides_314 (by decide) rfl ⟨by omega, by omega⟩ ⟨by omega, by omega⟩ (fun cq314 => absurd cq314 (by omega)) (fun cq314 => ?_)
      refine g_aload_n (q := 318) B101 dL_divides_317 rfl 9 rfl ?_
      refine g_bipush (q := 320) B101 dL_divides_318 rfl (by decide) ?_
      refine g_iload (q := 322) B101 dL_divides_320 rfl 2 rfl ?_
      refine g_iconst (q := 323) B101 dL_divides_322 rfl ?_
      refine g_iconst (q := 324) B101 dL_divides_323 rfl ?_
      refine g_callN (q := 327) (m1 := 1) (c2 := 17) (As := [.ref (yA Y 172), .int (iI 9), .int (iI oth), .int (iI 0), .int (iI 0)]) (st := []) B101 dL_divides_324 rfl (gN_sw (k_breakAt (Y := ySw Y) (S := sS S100) hst D100 V3.1 oth ⟨by omega, by omega⟩ 0 0 (x := bs) (hx := (by rw [e3]; exact (tv_0 (cd_brk0 m1.1 (by rw [n3]; exact m1.2))).trans b3)) (P' := P4) (hP := (by rw [e3]; exact (if_pos (cd_brk0 m1.1 (by rw [n3]; exact m1.2))).trans hP4)))) eL_call w179 (by decide) rfl rfl (Nat.le_of_ble_eq_true rfl) (by omega) (Nat.le_trans (show 17 ≤ 40 by omega) E.2.1) (Nat.le_trans (show 6 * (17) ≤ 6 * 40 by omega) E.2.2) (fun v S102 hS102 => ?_)
      obtain ⟨rfl, D102, K102⟩ := hS102
      have A102 := PK_o1 A100 K102
      have B103 := gB_K (c := 17) B101 (Nat.le_trans (show 17 ≤ 40 by omega) E.2.1) (Nat.le_trans (show 6 * (17) ≤ 6 * 40 by omega) E.2.2)
      show gW Y (xK X (17)) S102 327 [(10, .int (iI lf)), (8, .int (iI 1)), (9, .int (iI oth)), (7, .int (iI stt)), (6, .int (iI bs)), (5, .int (iI (pG P 0))), (4, .int (iI sc)), (3, .int (iI fw)), (0, .ref (yA Y 72)), (1, .ref (yA Y 172)), (2, .int (iI x))] [.int (iI bs)]
      refine g_iload (q := 329) B103 dL_divides_327 rfl 4 rfl ?_
      refine g_icmp_ne (t := 336) (q := 332) B103 dL_divides_329 (by decide) rfl ⟨by omega, by omega⟩ ⟨by omega, by omega⟩ (fun cq329 => absurd cq329 (by omega)) (fun cq329 => ?_)
      refine g_iconst (q := 333) B103 dL_divides_332 rfl ?_
      refine g_goto (q := 337) B103 dL_divides_333 (by decide) ?_
      refine g_istore (q := 339) B103 dL_divides_337 rfl (by decide) (L' := [(8, .int (iI 1)), (10, .int (iI lf)), (9, .int (iI oth)), (7, .int (iI stt)), (6, .int (iI bs)), (5, .int (iI (pG P 0))), (4, .int (iI sc)), (3, .int (iI fw)), (0, .ref (yA Y 72)), (1, .ref (yA Y 172)), (2, .int (iI x))]) rfl ?_
      refine g_aload_n (q := 340) B103 dL_divides_339 rfl 8 rfl ?_
      refine g_bipush (q := 342) B103 dL_divides_340 rfl (by decide) ?_
      refine g_iconst (q := 343) B103 dL_divides_342 rfl ?_
      refine g_iconst (q := 344) B103 dL_divides_343 rfl ?_
      refine g_iconst (q := 345) B103 dL_divides_344 rfl ?_
      refine g_callN (q := 348) (m1 := 1) (c2 := 18) (As := [.ref (yA Y 72), .int (iI 16), .int (iI 1), .int (iI 0), .int (iI 0)]) (st := []) B103 dL_divides_345 rfl (k_fewest (Y := Y) (S := S102) hst A102 V4.1 1 ⟨by omega, by omega⟩ 0 0 (x := iz) (hx := (by rw [e4]; exact hiz))) eL_call w179 (by decide) rfl rfl (Nat.le_of_ble_eq_true rfl) (by omega) (Nat.le_trans (show 18 ≤ 40 by omega) E.2.1) (Nat.le_trans (show 6 * (18) ≤ 6 * 40 by omega) E.2.2) (fun v S104 hS104 => ?_)
      obtain ⟨rfl, A104, K104⟩ := hS104
      have D104 := PK_o2 D102 K104
      have B105 := gB_K (c := 18) B103 (Nat.le_trans (show 18 ≤ 40 by omega) E.2.1) (Nat.le_trans (show 6 * (18) ≤ 6 * 40 by omega) E.2.2)
      show gW Y (xK X (18)) S104 348 [(8, .int (iI 1)), (10, .int (iI lf)), (9, .int (iI oth)), (7, .int (iI stt)), (6, .int (iI bs)), (5, .int (iI (pG P 0))), (4, .int (iI sc)), (3, .int (iI fw)), (0, .ref (yA Y 72)), (1, .ref (yA Y 172)), (2, .int (iI x))] [.int (iI iz)]
      refine g_istore (q := 350) B105 dL_divides_348 rfl (by decide) (L' := [(11, .int (iI iz)), (8, .int (iI 1)), (10, .int (iI lf)), (9, .int (iI oth)), (7, .int (iI stt)), (6, .int (iI bs)), (5, .int (iI (pG P 0))), (4, .int (iI sc)), (3, .int (iI fw)), (0, .ref (yA Y 72)), (1, .ref (yA Y 172)), (2, .int (iI x))]) rfl ?_
      refine g_iload (q := 352) B105 dL_divides_350 rfl 1 rfl ?_
      refine g_if_eq (t := 446) (q := 355) B105 dL_divides_352 (by decide) rfl ⟨by omega, by omega⟩ (fun cq352 => absurd cq352 (by decide)) (fun cq352 => ?_)
      refine g_iload (q := 357) B105 dL_divides_355 rfl 0 rfl ?_
      refine g_iconst (q := 358) B105 dL_divides_357 rfl ?_
      refine g_icmp_eq (t := 382) (q := 361) B105 dL_divides_358 (by decide) rfl ⟨by omega, by omega⟩ ⟨by omega, by omega⟩ (fun cq358 => ?_) (fun cq358 => ?_)
      · refine g_aload_n (q := 383) B105 dL_divides_382 rfl 9 rfl ?_
        refine g_bipush (q := 385) B105 dL_divides_383 rfl (by decide) ?_
        refine g_iconst (q := 386) B105 dL_divides_385 rfl ?_
        refine g_iconst (q := 387) B105 dL_divides_386 rfl ?_
        refine g_iconst (q := 388) B105 dL_divides_387 rfl ?_
        refine g_callN (q := 391) (m1 := 1) (c2 := 19) (As := [.ref (yA Y 72), .int (iI 15), .int (iI 0), .int (iI 0), .int (iI 0)]) (st := []) B105 dL_divides_388 rfl (k_undo (Y := Y) (S := S104) hst A104 V4.1  0 0 0 (x := pK P4 - 1) (hx := tv_0 (cd_undo0 k4)) (P' := P5) (hP := (if_pos (cd_undo0 k4)).trans hP5)) eL_call w179 (by decide) rfl rfl (Nat.le_of_ble_eq_true rfl) (by omega) (Nat.le_trans (show 19 ≤ 40 by omega) E.2.1) (Nat.le_trans (show 6 * (19) ≤ 6 * 40 by omega) E.2.2) (fun v S106 hS106 => ?_)
        obtain ⟨rfl, A106, K106⟩ := hS106
        have D106 := PK_o2 D104 K106
        have B107 := gB_K (c := 19) B105 (Nat.le_trans (show 19 ≤ 40 by omega) E.2.1) (Nat.le_trans (show 6 * (19) ≤ 6 * 40 by omega) E.2.2)
        show gW Y (xK X (19)) S106 391 [(11, .int (iI iz)), (8, .int (iI 1)), (10, .int (iI lf)), (9, .int (iI oth)), (7, .int (iI stt)), (6, .int (iI bs)), (5, .int (iI (pG P 0))), (4, .int (iI sc)), (3, .int (iI fw)), (0, .ref (yA Y 72)), (1, .ref (yA Y 172)), (2, .int (iI x))] [.int (iI (pK P4 - 1))]
        refine g_callN (q := 394) (m1 := 0) (c2 := 19) (As := [.int (iI (pK P4 - 1))]) (st := []) B107 dL_divides_391 rfl (c_thrown (Y := Y) (S := S106) (pK P4 - 1) ⟨by omega, by omega⟩ (by omega)) eL_thrown w937 (by decide) rfl rfl (Nat.le_of_ble_eq_true rfl) (by omega) (Nat.le_trans (show 19 ≤ 40 by omega) E.2.1) (Nat.le_trans (show 6 * (19) ≤ 6 * 40 by omega) E.2.2) (fun v S108 hS108 => ?_)
        obtain ⟨rfl, eS108⟩ := hS108
        rw [eS108]
        show gW Y (xK X (19)) S106 394 [(11, .int (iI iz)), (8, .int (iI 1)), (10, .int (iI lf)), (9, .int (iI oth)), (7, .int (iI stt)), (6, .int (iI bs)), (5, .int (iI (pG P 0))), (4, .int (iI sc)), (3, .int (iI fw)), (0, .ref (yA Y 72)), (1, .ref (yA Y 172)), (2, .int (iI x))] [.int (iI 0)]
        refine g_if_ne (t := 446) (q := 397) B107 dL_divides_394 (by decide) rfl ⟨by omega, by omega⟩ (fun cq394 => absurd cq394 (by decide)) (fun cq394 => ?_)
        refine g_aload_n (q := 398) B107 dL_divides_397 rfl 10 rfl ?_
        refine g_bipush (q := 400) B107 dL_divides_398 rfl (by decide) ?_
        refine g_iconst (q := 401) B107 dL_divides_400 rfl ?_
        refine g_iconst (q := 402) B107 dL_divides_401 rfl ?_
        refine g_iconst (q := 403) B107 dL_divides_402 rfl ?_
        refine g_callN (q := 406) (m1 := 1) (c2 := 20) (As := [.ref (yA Y 172), .int (iI 15), .int (iI 0), .int (iI 0), .int (iI 0)]) (st := []) B107 dL_divides_403 rfl (gN_sw (k_undo (Y := ySw Y) (S := sS S106) hst D106 V4.1  0 0 0 (x := pK P4 - 1) (hx := tv_0 (cd_undo0 k4)) (P' := P5) (hP := (if_pos (cd_undo0 k4)).trans hP5))) eL_call w179 (by decide) rfl rfl (Nat.le_of_ble_eq_true rfl) (by omega) (Nat.le_trans (show 20 ≤ 40 by omega) E.2.1) (Nat.le_trans (show 6 * (20) ≤ 6 * 40 by omega) E.2.2) (fun v S109 hS109 => ?_)
        obtain ⟨rfl, D109, K109⟩ := hS109
        have A109 := PK_o1 A106 K109
        have B110 := gB_K (c := 20) B107 (Nat.le_trans (show 20 ≤ 40 by omega) E.2.1) (Nat.le_trans (show 6 * (20) ≤ 6 * 40 by omega) E.2.2)
        show gW Y (xK X (20)) S109 406 [(11, .int (iI iz)), (8, .int (iI 1)), (10, .int (iI lf)), (9, .int (iI oth)), (7, .int (iI stt)), (6, .int (iI bs)), (5, .int (iI (pG P 0))), (4, .int (iI sc)), (3, .int (iI fw)), (0, .ref (yA Y 72)), (1, .ref (yA Y 172)), (2, .int (iI x))] [.int (iI (pK P4 - 1))]
        refine g_callN (q := 409) (m1 := 0) (c2 := 20) (As := [.int (iI (pK P4 - 1))]) (st := []) B110 dL_divides_406 rfl (c_thrown (Y := Y) (S := S109) (pK P4 - 1) ⟨by omega, by omega⟩ (by omega)) eL_thrown w937 (by decide) rfl rfl (Nat.le_of_ble_eq_true rfl) (by omega) (Nat.le_trans (show 20 ≤ 40 by omega) E.2.1) (Nat.le_trans (show 6 * (20) ≤ 6 * 40 by omega) E.2.2) (fun v S111 hS111 => ?_)
        obtain ⟨rfl, eS111⟩ := hS111
        rw [eS111]
        show gW Y (xK X (20)) S109 409 [(11, .int (iI iz)), (8, .int (iI 1)), (10, .int (iI lf)), (9, .int (iI oth)), (7, .int (iI stt)), (6, .int (iI bs)), (5, .int (iI (pG P 0))), (4, .int (iI sc)), (3, .int (iI fw)), (0, .ref (yA Y 72)), (1, .ref (yA Y 172)), (2, .int (iI x))] [.int (iI 0)]
        refine g_if_ne (t := 446) (q := 412) B110 dL_divides_409 (by decide) rfl ⟨by omega, by omega⟩ (fun cq409 => absurd cq409 (by decide)) (fun cq409 => ?_)
        refine g_aload_n (q := 413) B110 dL_divides_412 rfl 9 rfl ?_
        refine g_bipush (q := 415) B110 dL_divides_413 rfl (by decide) ?_
        refine g_iconst (q := 416) B110 dL_divides_415 rfl ?_
        refine g_iconst (q := 417) B110 dL_divides_416 rfl ?_
        refine g_iconst (q := 418) B110 dL_divides_417 rfl ?_
        refine g_callN (q := 421) (m1 := 1) (c2 := 21) (As := [.ref (yA Y 72), .int (iI 15), .int (iI 0), .int (iI 0), .int (iI 0)]) (st := []) B110 dL_divides_418 rfl (k_undo (Y := Y) (S := S109) hst A109 V5.1  0 0 0 (x := pK P5 - 1) (hx := tv_0 (cd_undo0 k5)) (P' := P6) (hP := (if_pos (cd_undo0 k5)).trans hP6)) eL_call w179 (by decide) rfl rfl (Nat.le_of_ble_eq_true rfl) (by omega) (Nat.le_trans (show 21 ≤ 40 by omega) E.2.1) (Nat.le_trans (show 6 * (21) ≤ 6 * 40 by omega) E.2.2) (fun v S112 hS112 => ?_)
        obtain ⟨rfl, A112, K112⟩ := hS112
        have D112 := PK_o2 D109 K112
        have B113 := gB_K (c := 21) B110 (Nat.le_trans (show 21 ≤ 40 by omega) E.2.1) (Nat.le_trans (show 6 * (21) ≤ 6 * 40 by omega) E.2.2)
        show gW Y (xK X (21)) S112 421 [(11, .int (iI iz)), (8, .int (iI 1)), (10, .int (iI lf)), (9, .int (iI oth)), (7, .int (iI stt)), (6, .int (iI bs)), (5, .int (iI (pG P 0))), (4, .int (iI sc)), (3, .int (iI fw)), (0, .ref (yA Y 72)), (1, .ref (yA Y 172)), (2, .int (iI x))] [.int (iI (pK P5 - 1))]
        refine g_callN (q := 424) (m1 := 0) (c2 := 21) (As := [.int (iI (pK P5 - 1))]) (st := []) B113 dL_divides_421 rfl (c_thrown (Y := Y) (S := S112) (pK P5 - 1) ⟨by omega, by omega⟩ (by omega)) eL_thrown w937 (by decide) rfl rfl (Nat.le_of_ble_eq_true rfl) (by omega) (Nat.le_trans (show 21 ≤ 40 by omega) E.2.1) (Nat.le_trans (show 6 * (21) ≤ 6 * 40 by omega) E.2.2) (fun v S114 hS114 => ?_)
        obtain ⟨rfl, eS114⟩ := hS114
        rw [eS114]
        show gW Y (xK X (21)) S112 424 [(11, .int (iI iz)), (8, .int (iI 1)), (10, .int (iI lf)), (9, .int (iI oth)), (7, .int (iI stt)), (6, .int (iI bs)), (5, .int (iI (pG P 0))), (4, .int (iI sc)), (3, .int (iI fw)), (0, .ref (yA Y 72)), (1, .ref (yA Y 172)), (2, .int (iI x))] [.int (iI 0)]
        refine g_if_ne (t := 446) (q := 427) B113 dL_divides_424 (by decide) rfl ⟨by omega, by omega⟩ (fun cq424 => absurd cq424 (by decide)) (fun cq424 => ?_)
        refine g_aload_n (q := 428) B113 dL_divides_427 rfl 10 rfl ?_
        refine g_bipush (q := 430) B113 dL_divides_428 rfl (by decide) ?_
        refine g_iconst (q := 431) B113 dL_divides_430 rfl ?_
        refine g_iconst (q := 432) B113 dL_divides_431 rfl ?_
        refine g_iconst (q := 433) B113 dL_divides_432 rfl ?_
        refine g_callN (q := 436) (m1 := 1) (c2 := 22) (As := [.ref (yA Y 172), .int (iI 15), .int (iI 0), .int (iI 0), .int (iI 0)]) (st := []) B113 dL_divides_433 rfl (gN_sw (k_undo (Y := ySw Y) (S := sS S112) hst D112 V5.1  0 0 0 (x := pK P5 - 1) (hx := tv_0 (cd_undo0 k5)) (P' := P6) (hP := (if_pos (cd_undo0 k5)).trans hP6))) eL_call w179 (by decide) rfl rfl (Nat.le_of_ble_eq_true rfl) (by omega) (Nat.le_trans (show 22 ≤ 40 by omega) E.2.1) (Nat.le_trans (show 6 * (22) ≤ 6 * 40 by omega) E.2.2) (fun v S115 hS115 => ?_)
        obtain ⟨rfl, D115, K115⟩ := hS115
        have A115 := PK_o1 A112 K115
        have B116 := gB_K (c := 22) B113 (Nat.le_trans (show 22 ≤ 40 by omega) E.2.1) (Nat.le_trans (show 6 * (22) ≤ 6 * 40 by omega) E.2.2)
        show gW Y (xK X (22)) S115 436 [(11, .int (iI iz)), (8, .int (iI 1)), (10, .int (iI lf)), (9, .int (iI oth)), (7, .int (iI stt)), (6, .int (iI bs)), (5, .int (iI (pG P 0))), (4, .int (iI sc)), (3, .int (iI fw)), (0, .ref (yA Y 72)), (1, .ref (yA Y 172)), (2, .int (iI x))] [.int (iI (pK P5 - 1))]
        refine g_callN (q := 439) (m1 := 0) (c2 := 22) (As := [.int (iI (pK P5 - 1))]) (st := []) B116 dL_divides_436 rfl (c_thrown (Y := Y) (S := S115) (pK P5 - 1) ⟨by omega, by omega⟩ (by omega)) eL_thrown w937 (by decide) rfl rfl (Nat.le_of_ble_eq_true rfl) (by omega) (Nat.le_trans (show 22 ≤ 40 by omega) E.2.1) (Nat.le_trans (show 6 * (22) ≤ 6 * 40 by omega) E.2.2) (fun v S117 hS117 => ?_)
        obtain ⟨rfl, eS117⟩ := hS117
        rw [eS117]
        show gW Y (xK X (22)) S115 439 [(11, .int (iI iz)), (8, .int (iI 1)), (10, .int (iI lf)), (9, .int (iI oth)), (7, .int (iI stt)), (6, .int (iI bs)), (5, .int (iI (pG P 0))), (4, .int (iI sc)), (3, .int (iI fw)), (0, .ref (yA Y 72)), (1, .ref (yA Y 172)), (2, .int (iI x))] [.int (iI 0)]
        refine g_if_ne (t := 446) (q := 442) B116 dL_divides_439 (by decide) rfl ⟨by omega, by omega⟩ (fun cq439 => absurd cq439 (by decide)) (fun cq439 => ?_)
        refine g_iconst (q := 443) B116 dL_divides_442 rfl ?_
        refine g_goto (q := 447) B116 dL_divides_443 (by decide) ?_
        refine g_istore (q := 449) B116 dL_divides_447 rfl (by decide) (L' := [(8, .int (iI 1)), (11, .int (iI iz)), (10, .int (iI lf)), (9, .int (iI oth)), (7, .int (iI stt)), (6, .int (iI bs)), (5, .int (iI (pG P 0))), (4, .int (iI sc)), (3, .int (iI fw)), (0, .ref (yA Y 72)), (1, .ref (yA Y 172)), (2, .int (iI x))]) rfl ?_
        refine g_iload (q := 451) B116 dL_divides_449 rfl 0 rfl ?_
        refine g_if_eq (t := 484) (q := 454) B116 dL_divides_451 (by decide) rfl ⟨by omega, by omega⟩ (fun cq451 => absurd cq451 (by decide)) (fun cq451 => ?_)
        refine g_aload_n (q := 455) B116 dL_divides_454 rfl 9 rfl ?_
        refine g_iconst (q := 456) B116 dL_divides_455 rfl ?_
        refine g_iconst (q := 457) B116 dL_divides_456 rfl ?_
        refine g_iconst (q := 458) B116 dL_divides_457 rfl ?_
        refine g_iconst (q := 459) B116 dL_divides_458 rfl ?_
        refine g_callN (q := 462) (m1 := 1) (c2 := 23) (As := [.ref (yA Y 72), .int (iI 2), .int (iI 1), .int (iI 0), .int (iI 0)]) (st := []) B116 dL_divides_459 rfl (k_about (Y := Y) (S := S115) hst A115 V6.1 1 ⟨by omega, by omega⟩ 0 0 (x := stt) (hx := (by rw [e6]; exact hstt))) eL_call w179 (by decide) rfl rfl (Nat.le_of_ble_eq_true rfl) (by omega) (Nat.le_trans (show 23 ≤ 40 by omega) E.2.1) (Nat.le_trans (show 6 * (23) ≤ 6 * 40 by omega) E.2.2) (fun v S118 hS118 => ?_)
        obtain ⟨rfl, A118, K118⟩ := hS118
        have D118 := PK_o2 D115 K118
        have B119 := gB_K (c := 23) B116 (Nat.le_trans (show 23 ≤ 40 by omega) E.2.1) (Nat.le_trans (show 6 * (23) ≤ 6 * 40 by omega) E.2.2)
        show gW Y (xK X (23)) S118 462 [(8, .int (iI 1)), (11, .int (iI iz)), (10, .int (iI lf)), (9, .int (iI oth)), (7, .int (iI stt)), (6, .int (iI bs)), (5, .int (iI (pG P 0))), (4, .int (iI sc)), (3, .int (iI fw)), (0, .ref (yA Y 72)), (1, .ref (yA Y 172)), (2, .int (iI x))] [.int (iI stt)]
        refine g_iload (q := 464) B119 dL_divides_462 rfl 4 rfl ?_
        refine g_icmp_ne (t := 484) (q := 467) B119 dL_divides_464 (by decide) rfl ⟨by omega, by omega⟩ ⟨by omega, by omega⟩ (fun cq464 => absurd cq464 (by omega)) (fun cq464 => ?_)
        refine g_aload_n (q := 468) B119 dL_divides_467 rfl 9 rfl ?_
        refine g_bipush (q := 470) B119 dL_divides_468 rfl (by decide) ?_
        refine g_iconst (q := 471) B119 dL_divides_470 rfl ?_
        refine g_iconst (q := 472) B119 dL_divides_471 rfl ?_
        refine g_iconst (q := 473) B119 dL_divides_472 rfl ?_
        refine g_callN (q := 476) (m1 := 1) (c2 := 24) (As := [.ref (yA Y 72), .int (iI 16), .int (iI 0), .int (iI 0), .int (iI 0)]) (st := []) B119 dL_divides_473 rfl (k_fewest (Y := Y) (S := S118) hst A118 V6.1 0 ⟨by omega, by omega⟩ 0 0 (x := fw) (hx := (by rw [e6]; exact hfw))) eL_call w179 (by decide) rfl rfl (Nat.le_of_ble_eq_true rfl) (by omega) (Nat.le_trans (show 24 ≤ 40 by omega) E.2.1) (Nat.le_trans (show 6 * (24) ≤ 6 * 40 by omega) E.2.2) (fun v S120 hS120 => ?_)
        obtain ⟨rfl, A120, K120⟩ := hS120
        have D120 := PK_o2 D118 K120
        have B121 := gB_K (c := 24) B119 (Nat.le_trans (show 24 ≤ 40 by omega) E.2.1) (Nat.le_trans (show 6 * (24) ≤ 6 * 40 by omega) E.2.2)
        show gW Y (xK X (24)) S120 476 [(8, .int (iI 1)), (11, .int (iI iz)), (10, .int (iI lf)), (9, .int (iI oth)), (7, .int (iI stt)), (6, .int (iI bs)), (5, .int (iI (pG P 0))), (4, .int (iI sc)), (3, .int (iI fw)), (0, .ref (yA Y 72)), (1, .ref (yA Y 172)), (2, .int (iI x))] [.int (iI fw)]
        refine g_iload_n (q := 477) B121 dL_divides_476 rfl 8 rfl ?_
        refine g_icmp_ne (t := 484) (q := 480) B121 dL_divides_477 (by decide) rfl ⟨by omega, by omega⟩ ⟨by omega, by omega⟩ (fun cq477 => absurd cq477 (by omega)) (fun cq477 => ?_)
        refine g_iconst (q := 481) B121 dL_divides_480 rfl ?_
        refine g_goto (q := 485) B121 dL_divides_481 (by decide) ?_
        exact gn_zret B121 E (by omega) dL_divides_485 rfl (by decide) ⟨rfl, P6, V6, A120, D120⟩
      · refine g_iload (q := 363) B105 dL_divides_361 rfl 0 rfl ?_
        refine g_iload (q := 365) B105 dL_divides_363 rfl 2 rfl ?_
        refine g_icmp_gt (t := 382) (q := 368) B105 dL_divides_365 (by decide) rfl ⟨by omega, by omega⟩ ⟨by omega, by omega⟩ (fun cq365 => ?_) (fun cq365 => ?_)
        · refine g_aload_n (q := 383) B105 dL_divides_382 rfl 9 rfl ?_
          refine g_bipush (q := 385) B105 dL_divides_383 rfl (by decide) ?_
          refine g_iconst (q := 386) B105 dL_divides_385 rfl ?_
          refine g_iconst (q := 387) B105 dL_divides_386 rfl ?_
          refine g_iconst (q := 388) B105 dL_divides_387 rfl ?_
          refine g_callN (q := 391) (m1 := 1) (c2 := 19) (As := [.ref (yA Y 72), .int (iI 15), .int (iI 0), .int (iI 0), .int (iI 0)]) (st := []) B105 dL_divides_388 rfl (k_undo (Y := Y) (S := S104) hst A104 V4.1  0 0 0 (x := pK P4 - 1) (hx := tv_0 (cd_undo0 k4)) (P' := P5) (hP := (if_pos (cd_undo0 k4)).trans hP5)) eL_call w179 (by decide) rfl rfl (Nat.le_of_ble_eq_true rfl) (by omega) (Nat.le_trans (show 19 ≤ 40 by omega) E.2.1) (Nat.le_trans (show 6 * (19) ≤ 6 * 40 by omega) E.2.2) (fun v S122 hS122 => ?_)
          obtain ⟨rfl, A122, K122⟩ := hS122
          have D122 := PK_o2 D104 K122
          have B123 := gB_K (c := 19) B105 (Nat.le_trans (show 19 ≤ 40 by omega) E.2.1) (Nat.le_trans (show 6 * (19) ≤ 6 * 40 by omega) E.2.2)
          show gW Y (xK X (19)) S122 391 [(11, .int (iI iz)), (8, .int (iI 1)), (10, .int (iI lf)), (9, .int (iI oth)), (7, .int (iI stt)), (6, .int (iI bs)), (5, .int (iI (pG P 0))), (4, .int (iI sc)), (3, .int (iI fw)), (0, .ref (yA Y 72)), (1, .ref (yA Y 172)), (2, .int (iI x))] [.int (iI (pK P4 - 1))]
          refine g_callN (q := 394) (m1 := 0) (c2 := 19) (As := [.int (iI (pK P4 - 1))]) (st := []) B123 dL_divides_391 rfl (c_thrown (Y := Y) (S := S122) (pK P4 - 1) ⟨by omega, by omega⟩ (by omega)) eL_thrown w937 (by decide) rfl rfl (Nat.le_of_ble_eq_true rfl) (by omega) (Nat.le_trans (show 19 ≤ 40 by omega) E.2.1) (Nat.le_trans (show 6 * (19) ≤ 6 * 40 by omega) E.2.2) (fun v S124 hS124 => ?_)
          obtain ⟨rfl, eS124⟩ := hS124
          rw [eS124]
          show gW Y (xK X (19)) S122 394 [(11, .int (iI iz)), (8, .int (iI 1)), (10, .int (iI lf)), (9, .int (iI oth)), (7, .int (iI stt)), (6, .int (iI bs)), (5, .int (iI (pG P 0))), (4, .int (iI sc)), (3, .int (iI fw)), (0, .ref (yA Y 72)), (1, .ref (yA Y 172)), (2, .int (iI x))] [.int (iI 0)]
          refine g_if_ne (t := 446) (q := 397) B123 dL_divides_394 (by decide) rfl ⟨by omega, by omega⟩ (fun cq394 => absurd cq394 (by decide)) (fun cq394 => ?_)
          refine g_aload_n (q := 398) B123 dL_divides_397 rfl 10 rfl ?_
          refine g_bipush (q := 400) B123 dL_divides_398 rfl (by decide) ?_
          refine g_iconst (q := 401) B123 dL_divides_400 rfl ?_
          refine g_iconst (q := 402) B123 dL_divides_401 rfl ?_
          refine g_iconst (q := 403) B123 dL_divides_402 rfl ?_
          refine g_callN (q := 406) (m1 := 1) (c2 := 20) (As := [.ref (yA Y 172), .int (iI 15), .int (iI 0), .int (iI 0), .int (iI 0)]) (st := []) B123 dL_divides_403 rfl (gN_sw (k_undo (Y := ySw Y) (S := sS S122) hst D122 V4.1  0 0 0 (x := pK P4 - 1) (hx := tv_0 (cd_undo0 k4)) (P' := P5) (hP := (if_pos (cd_undo0 k4)).trans hP5))) eL_call w179 (by decide) rfl rfl (Nat.le_of_ble_eq_true rfl) (by omega) (Nat.le_trans (show 20 ≤ 40 by omega) E.2.1) (Nat.le_trans (show 6 * (20) ≤ 6 * 40 by omega) E.2.2) (fun v S125 hS125 => ?_)
          obtain ⟨rfl, D125, K125⟩ := hS125
          have A125 := PK_o1 A122 K125
          have B126 := gB_K (c := 20) B123 (Nat.le_trans (show 20 ≤ 40 by omega) E.2.1) (Nat.le_trans (show 6 * (20) ≤ 6 * 40 by omega) E.2.2)
          show gW Y (xK X (20)) S125 406 [(11, .int (iI iz)), (8, .int (iI 1)), (10, .int (iI lf)), (9, .int (iI oth)), (7, .int (iI stt)), (6, .int (iI bs)), (5, .int (iI (pG P 0))), (4, .int (iI sc)), (3, .int (iI fw)), (0, .ref (yA Y 72)), (1, .ref (yA Y 172)), (2, .int (iI x))] [.int (iI (pK P4 - 1))]
          refine g_callN (q := 409) (m1 := 0) (c2 := 20) (As := [.int (iI (pK P4 - 1))]) (st := []) B126 dL_divides_406 rfl (c_thrown (Y := Y) (S := S125) (pK P4 - 1) ⟨by omega, by omega⟩ (by omega)) eL_thrown w937 (by decide) rfl rfl (Nat.le_of_ble_eq_true rfl) (by omega) (Nat.le_trans (show 20 ≤ 40 by omega) E.2.1) (Nat.le_trans (show 6 * (20) ≤ 6 * 40 by omega) E.2.2) (fun v S127 hS127 => ?_)
          obtain ⟨rfl, eS127⟩ := hS127
          rw [eS127]
          show gW Y (xK X (20)) S125 409 [(11, .int (iI iz)), (8, .int (iI 1)), (10, .int (iI lf)), (9, .int (iI oth)), (7, .int (iI stt)), (6, .int (iI bs)), (5, .int (iI (pG P 0))), (4, .int (iI sc)), (3, .int (iI fw)), (0, .ref (yA Y 72)), (1, .ref (yA Y 172)), (2, .int (iI x))] [.int (iI 0)]
          refine g_if_ne (t := 446) (q := 412) B126 dL_divides_409 (by decide) rfl ⟨by omega, by omega⟩ (fun cq409 => absurd cq409 (by decide)) (fun cq409 => ?_)
          refine g_aload_n (q := 413) B126 dL_divides_412 rfl 9 rfl ?_
          refine g_bipush (q := 415) B126 dL_divides_413 rfl (by decide) ?_
          refine g_iconst (q := 416) B126 dL_divides_415 rfl ?_
          refine g_iconst (q := 417) B126 dL_divides_416 rfl ?_
          refine g_iconst (q := 418) B126 dL_divides_417 rfl ?_
          refine g_callN (q := 421) (m1 := 1) (c2 := 21) (As := [.ref (yA Y 72), .int (iI 15), .int (iI 0), .int (iI 0), .int (iI 0)]) (st := []) B126 dL_divides_418 rfl (k_undo (Y := Y) (S := S125) hst A125 V5.1  0 0 0 (x := pK P5 - 1) (hx := tv_0 (cd_undo0 k5)) (P' := P6) (hP := (if_pos (cd_undo0 k5)).trans hP6)) eL_call w179 (by decide) rfl rfl (Nat.le_of_ble_eq_true rfl) (by omega) (Nat.le_trans (show 21 ≤ 40 by omega) E.2.1) (Nat.le_trans (show 6 * (21) ≤ 6 * 40 by omega) E.2.2) (fun v S128 hS128 => ?_)
          obtain ⟨rfl, A128, K128⟩ := hS128
          have D128 := PK_o2 D125 K128
          have B129 := gB_K (c := 21) B126 (Nat.le_trans (show 21 ≤ 40 by omega) E.2.1) (Nat.le_trans (show 6 * (21) ≤ 6 * 40 by omega) E.2.2)
          show gW Y (xK X (21)) S128 421 [(11, .int (iI iz)), (8, .int (iI 1)), (10, .int (iI lf)), (9, .int (iI oth)), (7, .int (iI stt)), (6, .int (iI bs)), (5, .int (iI (pG P 0))), (4, .int (iI sc)), (3, .int (iI fw)), (0, .ref (yA Y 72)), (1, .ref (yA Y 172)), (2, .int (iI x))] [.int (iI (pK P5 - 1))]
          refine g_callN (q := 424) (m1 := 0) (c2 := 21) (As := [.int (iI (pK P5 - 1))]) (st := []) B129 dL_divides_421 rfl (c_thrown (Y := Y) (S := S128) (pK P5 - 1) ⟨by omega, by omega⟩ (by omega)) eL_thrown w937 (by decide) rfl rfl (Nat.le_of_ble_eq_true rfl) (by omega) (Nat.le_trans (show 21 ≤ 40 by omega) E.2.1) (Nat.le_trans (show 6 * (21) ≤ 6 * 40 by omega) E.2.2) (fun v S130 hS130 => ?_)
          obtain ⟨rfl, eS130⟩ := hS130
          rw [eS130]
          show gW Y (xK X (21)) S128 424 [(11, .int (iI iz)), (8, .int (iI 1)), (10, .int (iI lf)), (9, .int (iI oth)), (7, .int (iI stt)), (6, .int (iI bs)), (5, .int (iI (pG P 0))), (4, .int (iI sc)), (3, .int (iI fw)), (0, .ref (yA Y 72)), (1, .ref (yA Y 172)), (2, .int (iI x))] [.int (iI 0)]
          refine g_if_ne (t := 446) (q := 427) B129 dL_divides_424 (by decide) rfl ⟨by omega, by omega⟩ (fun cq424 => absurd cq424 (by decide)) (fun cq424 => ?_)
          refine g_aload_n (q := 428) B129 dL_divides_427 rfl 10 rfl ?_
          refine g_bipush (q := 430) B129 dL_divides_428 rfl (by decide) ?_
          refine g_iconst (q := 431) B129 dL_divides_430 rfl ?_
          refine g_iconst (q := 432) B129 dL_divides_431 rfl ?_
          refine g_iconst (q := 433) B129 dL_divides_432 rfl ?_
          refine g_callN (q := 436) (m1 := 1) (c2 := 22) (As := [.ref (yA Y 172), .int (iI 15), .int (iI 0), .int (iI 0), .int (iI 0)]) (st := []) B129 dL_divides_433 rfl (gN_sw (k_undo (Y := ySw Y) (S := sS S128) hst D128 V5.1  0 0 0 (x := pK P5 - 1) (hx := tv_0 (cd_undo0 k5)) (P' := P6) (hP := (if_pos (cd_undo0 k5)).trans hP6))) eL_call w179 (by decide) rfl rfl (Nat.le_of_ble_eq_true rfl) (by omega) (Nat.le_trans (show 22 ≤ 40 by omega) E.2.1) (Nat.le_trans (show 6 * (22) ≤ 6 * 40 by omega) E.2.2) (fun v S131 hS131 => ?_)
          obtain ⟨rfl, D131, K131⟩ := hS131
          have A131 := PK_o1 A128 K131
          have B132 := gB_K (c := 22) B129 (Nat.le_trans (show 22 ≤ 40 by omega) E.2.1) (Nat.le_trans (show 6 * (22) ≤ 6 * 40 by omega) E.2.2)
          show gW Y (xK X (22)) S131 436 [(11, .int (iI iz)), (8, .int (iI 1)), (10, .int (iI lf)), (9, .int (iI oth)), (7, .int (iI stt)), (6, .int (iI bs)), (5, .int (iI (pG P 0))), (4, .int (iI sc)), (3, .int (iI fw)), (0, .ref (yA Y 72)), (1, .ref (yA Y 172)), (2, .int (iI x))] [.int (iI (pK P5 - 1))]
          refine g_callN (q := 439) (m1 := 0) (c2 := 22) (As := [.int (iI (pK P5 - 1))]) (st := []) B132 dL_divides_436 rfl (c_thrown (Y := Y) (S := S131) (pK P5 - 1) ⟨by omega, by omega⟩ (by omega)) eL_thrown w937 (by decide) rfl rfl (Nat.le_of_ble_eq_true rfl) (by omega) (Nat.le_trans (show 22 ≤ 40 by omega) E.2.1) (Nat.le_trans (show 6 * (22) ≤ 6 * 40 by omega) E.2.2) (fun v S133 hS133 => ?_)
          obtain ⟨rfl, eS133⟩ := hS133
          rw [eS133]
          show gW Y (xK X (22)) S131 439 [(11, .int (iI iz)), (8, .int (iI 1)), (10, .int (iI lf)), (9, .int (iI oth)), (7, .int (iI stt)), (6, .int (iI bs)), (5, .int (iI (pG P 0))), (4, .int (iI sc)), (3, .int (iI fw)), (0, .ref (yA Y 72)), (1, .ref (yA Y 172)), (2, .int (iI x))] [.int (iI 0)]
          refine g_if_ne (t := 446) (q := 442) B132 dL_divides_439 (by decide) rfl ⟨by omega, by omega⟩ (fun cq439 => absurd cq439 (by decide)) (fun cq439 => ?_)
          refine g_iconst (q := 443) B132 dL_divides_442 rfl ?_
          refine g_goto (q := 447) B132 dL_divides_443 (by decide) ?_
          refine g_istore (q := 449) B132 dL_divides_447 rfl (by decide) (L' := [(8, .int (iI 1)), (11, .int (iI iz)), (10, .int (iI lf)), (9, .int (iI oth)), (7, .int (iI stt)), (6, .int (iI bs)), (5, .int (iI (pG P 0))), (4, .int (iI sc)), (3, .int (iI fw)), (0, .ref (yA Y 72)), (1, .ref (yA Y 172)), (2, .int (iI x))]) rfl ?_
          refine g_iload (q := 451) B132 dL_divides_449 rfl 0 rfl ?_
          refine g_if_eq (t := 484) (q := 454) B132 dL_divides_451 (by decide) rfl ⟨by omega, by omega⟩ (fun cq451 => absurd cq451 (by decide)) (fun cq451 => ?_)
          refine g_aload_n (q := 455) B132 dL_divides_454 rfl 9 rfl ?_
          refine g_iconst (q := 456) B132 dL_divides_455 rfl ?_
          refine g_iconst (q := 457) B132 dL_divides_456 rfl ?_
          refine g_iconst (q := 458) B132 dL_divides_457 rfl ?_
          refine g_iconst (q := 459) B132 dL_divides_458 rfl ?_
          refine g_callN (q := 462) (m1 := 1) (c2 := 23) (As := [.ref (yA Y 72), .int (iI 2), .int (iI 1), .int (iI 0), .int (iI 0)]) (st := []) B132 dL_divides_459 rfl (k_about (Y := Y) (S := S131) hst A131 V6.1 1 ⟨by omega, by omega⟩ 0 0 (x := stt) (hx := (by rw [e6]; exact hstt))) eL_call w179 (by decide) rfl rfl (Nat.le_of_ble_eq_true rfl) (by omega) (Nat.le_trans (show 23 ≤ 40 by omega) E.2.1) (Nat.le_trans (show 6 * (23) ≤ 6 * 40 by omega) E.2.2) (fun v S134 hS134 => ?_)
          obtain ⟨rfl, A134, K134⟩ := hS134
          have D134 := PK_o2 D131 K134
          have B135 := gB_K (c := 23) B132 (Nat.le_trans (show 23 ≤ 40 by omega) E.2.1) (Nat.le_trans (show 6 * (23) ≤ 6 * 40 by omega) E.2.2)
          show gW Y (xK X (23)) S134 462 [(8, .int (iI 1)), (11, .int (iI iz)), (10, .int (iI lf)), (9, .int (iI oth)), (7, .int (iI stt)), (6, .int (iI bs)), (5, .int (iI (pG P 0))), (4, .int (iI sc)), (3, .int (iI fw)), (0, .ref (yA Y 72)), (1, .ref (yA Y 172)), (2, .int (iI x))] [.int (iI stt)]
          refine g_iload (q := 464) B135 dL_divides_462 rfl 4 rfl ?_
          refine g_icmp_ne (t := 484) (q := 467) B135 dL_divides_464 (by decide) rfl ⟨by omega, by omega⟩ ⟨by omega, by omega⟩ (fun cq464 => absurd cq464 (by omega)) (fun cq464 => ?_)
          refine g_aload_n (q := 468) B135 dL_divides_467 rfl 9 rfl ?_
          refine g_bipush (q := 470) B135 dL_divides_468 rfl (by decide) ?_
          refine g_iconst (q := 471) B135 dL_divides_470 rfl ?_
          refine g_iconst (q := 472) B135 dL_divides_471 rfl ?_
          refine g_iconst (q := 473) B135 dL_divides_472 rfl ?_
          refine g_callN (q := 476) (m1 := 1) (c2 := 24) (As := [.ref (yA Y 72), .int (iI 16), .int (iI 0), .int (iI 0), .int (iI 0)]) (st := []) B135 dL_divides_473 rfl (k_fewest (Y := Y) (S := S134) hst A134 V6.1 0 ⟨by omega, by omega⟩ 0 0 (x := fw) (hx := (by rw [e6]; exact hfw))) eL_call w179 (by decide) rfl rfl (Nat.le_of_ble_eq_true rfl) (by omega) (Nat.le_trans (show 24 ≤ 40 by omega) E.2.1) (Nat.le_trans (show 6 * (24) ≤ 6 * 40 by omega) E.2.2) (fun v S136 hS136 => ?_)
          obtain ⟨rfl, A136, K136⟩ := hS136
          have D136 := PK_o2 D134 K136
          have B137 := gB_K (c := 24) B135 (Nat.le_trans (show 24 ≤ 40 by omega) E.2.1) (Nat.le_trans (show 6 * (24) ≤ 6 * 40 by omega) E.2.2)
          show gW Y (xK X (24)) S136 476 [(8, .int (iI 1)), (11, .int (iI iz)), (10, .int (iI lf)), (9, .int (iI oth)), (7, .int (iI stt)), (6, .int (iI bs)), (5, .int (iI (pG P 0))), (4, .int (iI sc)), (3, .int (iI fw)), (0, .ref (yA Y 72)), (1, .ref (yA Y 172)), (2, .int (iI x))] [.int (iI fw)]
          refine g_iload_n (q := 477) B137 dL_divides_476 rfl 8 rfl ?_
          refine g_icmp_ne (t := 484) (q := 480) B137 dL_divides_477 (by decide) rfl ⟨by omega, by omega⟩ ⟨by omega, by omega⟩ (fun cq477 => absurd cq477 (by omega)) (fun cq477 => ?_)
          refine g_iconst (q := 481) B137 dL_divides_480 rfl ?_
          refine g_goto (q := 485) B137 dL_divides_481 (by decide) ?_
          exact gn_zret B137 E (by omega) dL_divides_485 rfl (by decide) ⟨rfl, P6, V6, A136, D136⟩
        · refine g_iload (q := 370) B105 dL_divides_368 rfl 0 rfl ?_
          refine g_iload (q := 372) B105 dL_divides_370 rfl 2 rfl ?_
          refine g_icmp_ne (t := 446) (q := 375) B105 dL_divides_372 (by decide) rfl ⟨by omega, by omega⟩ ⟨by omega, by omega⟩ (fun cq372 => absurd cq372 (by omega)) (fun cq372 => ?_)
          refine g_iload (q := 377) B105 dL_divides_375 rfl 3 rfl ?_
          refine g_iload (q := 379) B105 dL_divides_377 rfl 5 rfl ?_
          refine g_icmp_lt (t := 446) (q := 382) B105 dL_divides_379 (by decide) rfl ⟨by omega, by omega⟩ ⟨by omega, by omega⟩ (fun cq379 => absurd cq379 (by omega)) (fun cq379 => ?_)
          refine g_aload_n (q := 383) B105 dL_divides_382 rfl 9 rfl ?_
          refine g_bipush (q := 385) B105 dL_divides_383 rfl (by decide) ?_
          refine g_iconst (q := 386) B105 dL_divides_385 rfl ?_
          refine g_iconst (q := 387) B105 dL_divides_386 rfl ?_
          refine g_iconst (q := 388) B105 dL_divides_387 rfl ?_
          refine g_callN (q := 391) (m1 := 1) (c2 := 19) (As := [.ref (yA Y 72), .int (iI 15), .int (iI 0), .int (iI 0), .int (iI 0)]) (st := []) B105 dL_divides_388 rfl (k_undo (Y := Y) (S := S104) hst A104 V4.1  0 0 0 (x := pK P4 - 1) (hx := tv_0 (cd_undo0 k4)) (P' := P5) (hP := (if_pos (cd_undo0 k4)).trans hP5)) eL_call w179 (by decide) rfl rfl (Nat.le_of_ble_eq_true rfl) (by omega) (Nat.le_trans (show 19 ≤ 40 by omega) E.2.1) (Nat.le_trans (show 6 * (19) ≤ 6 * 40 by omega) E.2.2) (fun v S138 hS138 => ?_)
          obtain ⟨rfl, A138, K138⟩ := hS138
          have D138 := PK_o2 D104 K138
          have B139 := gB_K (c := 19) B105 (Nat.le_trans (show 19 ≤ 40 by omega) E.2.1) (Nat.le_trans (show 6 * (19) ≤ 6 * 40 by omega) E.2.2)
          show gW Y (xK X (19)) S138 391 [(11, .int (iI iz)), (8, .int (iI 1)), (10, .int (iI lf)), (9, .int (iI oth)), (7, .int (iI stt)), (6, .int (iI bs)), (5, .int (iI (pG P 0))), (4, .int (iI sc)), (3, .int (iI fw)), (0, .ref (yA Y 72)), (1, .ref (yA Y 172)), (2, .int (iI x))] [.int (iI (pK P4 - 1))]
          refine g_callN (q := 394) (m1 := 0) (c2 := 19) (As := [.int (iI (pK P4 - 1))]) (st := []) B139 dL_divides_391 rfl (c_thrown (Y := Y) (S := S138) (pK P4 - 1) ⟨by omega, by omega⟩ (by omega)) eL_thrown w937 (by decide) rfl rfl (Nat.le_of_ble_eq_true rfl) (by omega) (Nat.le_trans (show 19 ≤ 40 by omega) E.2.1) (Nat.le_trans (show 6 * (19) ≤ 6 * 40 by omega) E.2.2) (fun v S140 hS140 => ?_)
          obtain ⟨rfl, eS140⟩ := hS140
          rw [eS140]
          show gW Y (xK X (19)) S138 394 [(11, .int (iI iz)), (8, .int (iI 1)), (10, .int (iI lf)), (9, .int (iI oth)), (7, .int (iI stt)), (6, .int (iI bs)), (5, .int (iI (pG P 0))), (4, .int (iI sc)), (3, .int (iI fw)), (0, .ref (yA Y 72)), (1, .ref (yA Y 172)), (2, .int (iI x))] [.int (iI 0)]
          refine g_if_ne (t := 446) (q := 397) B139 dL_divides_394 (by decide) rfl ⟨by omega, by omega⟩ (fun cq394 => absurd cq394 (by decide)) (fun cq394 => ?_)
          refine g_aload_n (q := 398) B139 dL_divides_397 rfl 10 rfl ?_
          refine g_bipush (q := 400) B139 dL_divides_398 rfl (by decide) ?_
          refine g_iconst (q := 401) B139 dL_divides_400 rfl ?_
          refine g_iconst (q := 402) B139 dL_divides_401 rfl ?_
          refine g_iconst (q := 403) B139 dL_divides_402 rfl ?_
          refine g_callN (q := 406) (m1 := 1) (c2 := 20) (As := [.ref (yA Y 172), .int (iI 15), .int (iI 0), .int (iI 0), .int (iI 0)]) (st := []) B139 dL_divides_403 rfl (gN_sw (k_undo (Y := ySw Y) (S := sS S138) hst D138 V4.1  0 0 0 (x := pK P4 - 1) (hx := tv_0 (cd_undo0 k4)) (P' := P5) (hP := (if_pos (cd_undo0 k4)).trans hP5))) eL_call w179 (by decide) rfl rfl (Nat.le_of_ble_eq_true rfl) (by omega) (Nat.le_trans (show 20 ≤ 40 by omega) E.2.1) (Nat.le_trans (show 6 * (20) ≤ 6 * 40 by omega) E.2.2) (fun v S141 hS141 => ?_)
          obtain ⟨rfl, D141, K141⟩ := hS141
          have A141 := PK_o1 A138 K141
          have B142 := gB_K (c := 20) B139 (Nat.le_trans (show 20 ≤ 40 by omega) E.2.1) (Nat.le_trans (show 6 * (20) ≤ 6 * 40 by omega) E.2.2)
          show gW Y (xK X (20)) S141 406 [(11, .int (iI iz)), (8, .int (iI 1)), (10, .int (iI lf)), (9, .int (iI oth)), (7, .int (iI stt)), (6, .int (iI bs)), (5, .int (iI (pG P 0))), (4, .int (iI sc)), (3, .int (iI fw)), (0, .ref (yA Y 72)), (1, .ref (yA Y 172)), (2, .int (iI x))] [.int (iI (pK P4 - 1))]
          refine g_callN (q := 409) (m1 := 0) (c2 := 20) (As := [.int (iI (pK P4 - 1))]) (st := []) B142 dL_divides_406 rfl (c_thrown (Y := Y) (S := S141) (pK P4 - 1) ⟨by omega, by omega⟩ (by omega)) eL_thrown w937 (by decide) rfl rfl (Nat.le_of_ble_eq_true rfl) (by omega) (Nat.le_trans (show 20 ≤ 40 by omega) E.2.1) (Nat.le_trans (show 6 * (20) ≤ 6 * 40 by omega) E.2.2) (fun v S143 hS143 => ?_)
          obtain ⟨rfl, eS143⟩ := hS143
          rw [eS143]
          show gW Y (xK X (20)) S141 409 [(11, .int (iI iz)), (8, .int (iI 1)), (10, .int (iI lf)), (9, .int (iI oth)), (7, .int (iI stt)), (6, .int (iI bs)), (5, .int (iI (pG P 0))), (4, .int (iI sc)), (3, .int (iI fw)), (0, .ref (yA Y 72)), (1, .ref (yA Y 172)), (2, .int (iI x))] [.int (iI 0)]
          refine g_if_ne (t := 446) (q := 412) B142 dL_divides_409 (by decide) rfl ⟨by omega, by omega⟩ (fun cq409 => absurd cq409 (by decide)) (fun cq409 => ?_)
          refine g_aload_n (q := 413) B142 dL_divides_412 rfl 9 rfl ?_
          refine g_bipush (q := 415) B142 dL_divides_413 rfl (by decide) ?_
          refine g_iconst (q := 416) B142 dL_divides_415 rfl ?_
          refine g_iconst (q := 417) B142 dL_divides_416 rfl ?_
          refine g_iconst (q := 418) B142 dL_divides_417 rfl ?_
          refine g_callN (q := 421) (m1 := 1) (c2 := 21) (As := [.ref (yA Y 72), .int (iI 15), .int (iI 0), .int (iI 0), .int (iI 0)]) (st := []) B142 dL_divides_418 rfl (k_undo (Y := Y) (S := S141) hst A141 V5.1  0 0 0 (x := pK P5 - 1) (hx := tv_0 (cd_undo0 k5)) (P' := P6) (hP := (if_pos (cd_undo0 k5)).trans hP6)) eL_call w179 (by decide) rfl rfl (Nat.le_of_ble_eq_true rfl) (by omega) (Nat.le_trans (show 21 ≤ 40 by omega) E.2.1) (Nat.le_trans (show 6 * (21) ≤ 6 * 40 by omega) E.2.2) (fun v S144 hS144 => ?_)
          obtain ⟨rfl, A144, K144⟩ := hS144
          have D144 := PK_o2 D141 K144
          have B145 := gB_K (c := 21) B142 (Nat.le_trans (show 21 ≤ 40 by omega) E.2.1) (Nat.le_trans (show 6 * (21) ≤ 6 * 40 by omega) E.2.2)
          show gW Y (xK X (21)) S144 421 [(11, .int (iI iz)), (8, .int (iI 1)), (10, .int (iI lf)), (9, .int (iI oth)), (7, .int (iI stt)), (6, .int (iI bs)), (5, .int (iI (pG P 0))), (4, .int (iI sc)), (3, .int (iI fw)), (0, .ref (yA Y 72)), (1, .ref (yA Y 172)), (2, .int (iI x))] [.int (iI (pK P5 - 1))]
          refine g_callN (q := 424) (m1 := 0) (c2 := 21) (As := [.int (iI (pK P5 - 1))]) (st := []) B145 dL_divides_421 rfl (c_thrown (Y := Y) (S := S144) (pK P5 - 1) ⟨by omega, by omega⟩ (by omega)) eL_thrown w937 (by decide) rfl rfl (Nat.le_of_ble_eq_true rfl) (by omega) (Nat.le_trans (show 21 ≤ 40 by omega) E.2.1) (Nat.le_trans (show 6 * (21) ≤ 6 * 40 by omega) E.2.2) (fun v S146 hS146 => ?_)
          obtain ⟨rfl, eS146⟩ := hS146
          rw [eS146]
          show gW Y (xK X (21)) S144 424 [(11, .int (iI iz)), (8, .int (iI 1)), (10, .int (iI lf)), (9, .int (iI oth)), (7, .int (iI stt)), (6, .int (iI bs)), (5, .int (iI (pG P 0))), (4, .int (iI sc)), (3, .int (iI fw)), (0, .ref (yA Y 72)), (1, .ref (yA Y 172)), (2, .int (iI x))] [.int (iI 0)]
          refine g_if_ne (t := 446) (q := 427) B145 dL_divides_424 (by decide) rfl ⟨by omega, by omega⟩ (fun cq424 => absurd cq424 (by decide)) (fun cq424 => ?_)
          refine g_aload_n (q := 428) B145 dL_divides_427 rfl 10 rfl ?_
          refine g_bipush (q := 430) B145 dL_divides_428 rfl (by decide) ?_
          refine g_iconst (q := 431) B145 dL_divides_430 rfl ?_
          refine g_iconst (q := 432) B145 dL_divides_431 rfl ?_
          refine g_iconst (q := 433) B145 dL_divides_432 rfl ?_
          refine g_callN (q := 436) (m1 := 1) (c2 := 22) (As := [.ref (yA Y 172), .int (iI 15), .int (iI 0), .int (iI 0), .int (iI 0)]) (st := []) B145 dL_divides_433 rfl (gN_sw (k_undo (Y := ySw Y) (S := sS S144) hst D144 V5.1  0 0 0 (x := pK P5 - 1) (hx := tv_0 (cd_undo0 k5)) (P' := P6) (hP := (if_pos (cd_undo0 k5)).trans hP6))) eL_call w179 (by decide) rfl rfl (Nat.le_of_ble_eq_true rfl) (by omega) (Nat.le_trans (show 22 ≤ 40 by omega) E.2.1) (Nat.le_trans (show 6 * (22) ≤ 6 * 40 by omega) E.2.2) (fun v S147 hS147 => ?_)
          obtain ⟨rfl, D147, K147⟩ := hS147
          have A147 := PK_o1 A144 K147
          have B148 := gB_K (c := 22) B145 (Nat.le_trans (show 22 ≤ 40 by omega) E.2.1) (Nat.le_trans (show 6 * (22) ≤ 6 * 40 by omega) E.2.2)
          show gW Y (xK X (22)) S147 436 [(11, .int (iI iz)), (8, .int (iI 1)), (10, .int (iI lf)), (9, .int (iI oth)), (7, .int (iI stt)), (6, .int (iI bs)), (5, .int (iI (pG P 0))), (4, .int (iI sc)), (3, .int (iI fw)), (0, .ref (yA Y 72)), (1, .ref (yA Y 172)), (2, .int (iI x))] [.int (iI (pK P5 - 1))]
          refine g_callN (q := 439) (m1 := 0) (c2 := 22) (As := [.int (iI (pK P5 - 1))]) (st := []) B148 dL_divides_436 rfl (c_thrown (Y := Y) (S := S147) (pK P5 - 1) ⟨by omega, by omega⟩ (by omega)) eL_thrown w937 (by decide) rfl rfl (Nat.le_of_ble_eq_true rfl) (by omega) (Nat.le_trans (show 22 ≤ 40 by omega) E.2.1) (Nat.le_trans (show 6 * (22) ≤ 6 * 40 by omega) E.2.2) (fun v S149 hS149 => ?_)
          obtain ⟨rfl, eS149⟩ := hS149
          rw [eS149]
          show gW Y (xK X (22)) S147 439 [(11, .int (iI iz)), (8, .int (iI 1)), (10, .int (iI lf)), (9, .int (iI oth)), (7, .int (iI stt)), (6, .int (iI bs)), (5, .int (iI (pG P 0))), (4, .int (iI sc)), (3, .int (iI fw)), (0, .ref (yA Y 72)), (1, .ref (yA Y 172)), (2, .int (iI x))] [.int (iI 0)]
          refine g_if_ne (t := 446) (q := 442) B148 dL_divides_439 (by decide) rfl ⟨by omega, by omega⟩ (fun cq439 => absurd cq439 (by decide)) (fun cq439 => ?_)
          refine g_iconst (q := 443) B148 dL_divides_442 rfl ?_
          refine g_goto (q := 447) B148 dL_divides_443 (by decide) ?_
          refine g_istore (q := 449) B148 dL_divides_447 rfl (by decide) (L' := [(8, .int (iI 1)), (11, .int (iI iz)), (10, .int (iI lf)), (9, .int (iI oth)), (7, .int (iI stt)), (6, .int (iI bs)), (5, .int (iI (pG P 0))), (4, .int (iI sc)), (3, .int (iI fw)), (0, .ref (yA Y 72)), (1, .ref (yA Y 172)), (2, .int (iI x))]) rfl ?_
          refine g_iload (q := 451) B148 dL_divides_449 rfl 0 rfl ?_
          refine g_if_eq (t := 484) (q := 454) B148 dL_divides_451 (by decide) rfl ⟨by omega, by omega⟩ (fun cq451 => absurd cq451 (by decide)) (fun cq451 => ?_)
          refine g_aload_n (q := 455) B148 dL_divides_454 rfl 9 rfl ?_
          refine g_iconst (q := 456) B148 dL_divides_455 rfl ?_
          refine g_iconst (q := 457) B148 dL_divides_456 rfl ?_
          refine g_iconst (q := 458) B148 dL_divides_457 rfl ?_
          refine g_iconst (q := 459) B148 dL_divides_458 rfl ?_
          refine g_callN (q := 462) (m1 := 1) (c2 := 23) (As := [.ref (yA Y 72), .int (iI 2), .int (iI 1), .int (iI 0), .int (iI 0)]) (st := []) B148 dL_divides_459 rfl (k_about (Y := Y) (S := S147) hst A147 V6.1 1 ⟨by omega, by omega⟩ 0 0 (x := stt) (hx := (by rw [e6]; exact hstt))) eL_call w179 (by decide) rfl rfl (Nat.le_of_ble_eq_true rfl) (by omega) (Nat.le_trans (show 23 ≤ 40 by omega) E.2.1) (Nat.le_trans (show 6 * (23) ≤ 6 * 40 by omega) E.2.2) (fun v S150 hS150 => ?_)
          obtain ⟨rfl, A150, K150⟩ := hS150
          have D150 := PK_o2 D147 K150
          have B151 := gB_K (c := 23) B148 (Nat.le_trans (show 23 ≤ 40 by omega) E.2.1) (Nat.le_trans (show 6 * (23) ≤ 6 * 40 by omega) E.2.2)
          show gW Y (xK X (23)) S150 462 [(8, .int (iI 1)), (11, .int (iI iz)), (10, .int (iI lf)), (9, .int (iI oth)), (7, .int (iI stt)), (6, .int (iI bs)), (5, .int (iI (pG P 0))), (4, .int (iI sc)), (3, .int (iI fw)), (0, .ref (yA Y 72)), (1, .ref (yA Y 172)), (2, .int (iI x))] [.int (iI stt)]
          refine g_iload (q := 464) B151 dL_divides_462 rfl 4 rfl ?_
          refine g_icmp_ne (t := 484) (q := 467) B151 dL_divides_464 (by decide) rfl ⟨by omega, by omega⟩ ⟨by omega, by omega⟩ (fun cq464 => absurd cq464 (by omega)) (fun cq464 => ?_)
          refine g_aload_n (q := 468) B151 dL_divides_467 rfl 9 rfl ?_
          refine g_bipush (q := 470) B151 dL_divides_468 rfl (by decide) ?_
          refine g_iconst (q := 471) B151 dL_divides_470 rfl ?_
          refine g_iconst (q := 472) B151 dL_divides_471 rfl ?_
          refine g_iconst (q := 473) B151 dL_divides_472 rfl ?_
          refine g_callN (q := 476) (m1 := 1) (c2 := 24) (As := [.ref (yA Y 72), .int (iI 16), .int (iI 0), .int (iI 0), .int (iI 0)]) (st := []) B151 dL_divides_473 rfl (k_fewest (Y := Y) (S := S150) hst A150 V6.1 0 ⟨by omega, by omega⟩ 0 0 (x := fw) (hx := (by rw [e6]; exact hfw))) eL_call w179 (by decide) rfl rfl (Nat.le_of_ble_eq_true rfl) (by omega) (Nat.le_trans (show 24 ≤ 40 by omega) E.2.1) (Nat.le_trans (show 6 * (24) ≤ 6 * 40 by omega) E.2.2) (fun v S152 hS152 => ?_)
          obtain ⟨rfl, A152, K152⟩ := hS152
          have D152 := PK_o2 D150 K152
          have B153 := gB_K (c := 24) B151 (Nat.le_trans (show 24 ≤ 40 by omega) E.2.1) (Nat.le_trans (show 6 * (24) ≤ 6 * 40 by omega) E.2.2)
          show gW Y (xK X (24)) S152 476 [(8, .int (iI 1)), (11, .int (iI iz)), (10, .int (iI lf)), (9, .int (iI oth)), (7, .int (iI stt)), (6, .int (iI bs)), (5, .int (iI (pG P 0))), (4, .int (iI sc)), (3, .int (iI fw)), (0, .ref (yA Y 72)), (1, .ref (yA Y 172)), (2, .int (iI x))] [.int (iI fw)]
          refine g_iload_n (q := 477) B153 dL_divides_476 rfl 8 rfl ?_
          refine g_icmp_ne (t := 484) (q := 480) B153 dL_divides_477 (by decide) rfl ⟨by omega, by omega⟩ ⟨by omega, by omega⟩ (fun cq477 => absurd cq477 (by omega)) (fun cq477 => ?_)
          refine g_iconst (q := 481) B153 dL_divides_480 rfl ?_
          refine g_goto (q := 485) B153 dL_divides_481 (by decide) ?_
          exact gn_zret B153 E (by omega) dL_divides_485 rfl (by decide) ⟨rfl, P6, V6, A152, D152⟩
  · have hno : fw = -1 := by omega
    refine g_aload_n (q := 56) B9 dL_divides_55 rfl 6 rfl ?_
    refine g_bipush (q := 58) B9 dL_divides_56 rfl (by decide) ?_
    refine g_iconst (q := 59) B9 dL_divides_58 rfl ?_
    refine g_iconst (q := 60) B9 dL_divides_59 rfl ?_
    refine g_iconst (q := 61) B9 dL_divides_60 rfl ?_
    refine g_callN (q := 64) (m1 := 1) (c2 := 5) (As := [.ref (yA Y 72), .int (iI 13), .int (iI 0), .int (iI 0), .int (iI 0)]) (st := []) B9 dL_divides_61 rfl (k_divide (Y := Y) (S := S8) hst A8 W  0 0 0 (x := -9999003) (hx := tv_1 (if_pos (hfw.trans hno))) (P' := P) (hP := if_neg (ne1 (if_pos (hfw.trans hno))))) eL_call w179 (by decide) rfl rfl (Nat.le_of_ble_eq_true rfl) (by omega) (Nat.le_trans (show 5 ≤ 40 by omega) E.2.1) (Nat.le_trans (show 6 * (5) ≤ 6 * 40 by omega) E.2.2) (fun v S154 hS154 => ?_)
    obtain ⟨rfl, A154, K154⟩ := hS154
    have D154 := PK_o2 D8 K154
    have B155 := gB_K (c := 5) B9 (Nat.le_trans (show 5 ≤ 40 by omega) E.2.1) (Nat.le_trans (show 6 * (5) ≤ 6 * 40 by omega) E.2.2)
    show gW Y (xK X (5)) S154 64 [(8, .int (iI 1)), (7, .int (iI stt)), (6, .int (iI bs)), (5, .int (iI (pG P 0))), (4, .int (iI sc)), (3, .int (iI fw)), (0, .ref (yA Y 72)), (1, .ref (yA Y 172)), (2, .int (iI x))] [.int (iI (-9999003))]
    refine g_ldc (z := -9999003) (q := 66) B155 dL_divides_64 rfl w280 (by decide) ?_
    refine g_icmp_ne (t := 87) (q := 69) B155 dL_divides_66 (by decide) rfl ⟨by omega, by omega⟩ ⟨by omega, by omega⟩ (fun cq66 => absurd cq66 (by decide)) (fun cq66 => ?_)
    refine g_aload_n (q := 70) B155 dL_divides_69 rfl 7 rfl ?_
    refine g_bipush (q := 72) B155 dL_divides_70 rfl (by decide) ?_
    refine g_iconst (q := 73) B155 dL_divides_72 rfl ?_
    refine g_iconst (q := 74) B155 dL_divides_73 rfl ?_
    refine g_iconst (q := 75) B155 dL_divides_74 rfl ?_
    refine g_callN (q := 78) (m1 := 1) (c2 := 6) (As := [.ref (yA Y 172), .int (iI 13), .int (iI 0), .int (iI 0), .int (iI 0)]) (st := []) B155 dL_divides_75 rfl (gN_sw (k_divide (Y := ySw Y) (S := sS S154) hst D154 W  0 0 0 (x := -9999003) (hx := tv_1 (if_pos (hfw.trans hno))) (P' := P) (hP := if_neg (ne1 (if_pos (hfw.trans hno)))))) eL_call w179 (by decide) rfl rfl (Nat.le_of_ble_eq_true rfl) (by omega) (Nat.le_trans (show 6 ≤ 40 by omega) E.2.1) (Nat.le_trans (show 6 * (6) ≤ 6 * 40 by omega) E.2.2) (fun v S156 hS156 => ?_)
    obtain ⟨rfl, D156, K156⟩ := hS156
    have A156 := PK_o1 A154 K156
    have B157 := gB_K (c := 6) B155 (Nat.le_trans (show 6 ≤ 40 by omega) E.2.1) (Nat.le_trans (show 6 * (6) ≤ 6 * 40 by omega) E.2.2)
    show gW Y (xK X (6)) S156 78 [(8, .int (iI 1)), (7, .int (iI stt)), (6, .int (iI bs)), (5, .int (iI (pG P 0))), (4, .int (iI sc)), (3, .int (iI fw)), (0, .ref (yA Y 72)), (1, .ref (yA Y 172)), (2, .int (iI x))] [.int (iI (-9999003))]
    refine g_ldc (z := -9999003) (q := 80) B157 dL_divides_78 rfl w280 (by decide) ?_
    refine g_icmp_ne (t := 87) (q := 83) B157 dL_divides_80 (by decide) rfl ⟨by omega, by omega⟩ ⟨by omega, by omega⟩ (fun cq80 => absurd cq80 (by decide)) (fun cq80 => ?_)
    refine g_iconst (q := 84) B157 dL_divides_83 rfl ?_
    refine g_goto (q := 88) B157 dL_divides_84 (by decide) ?_
    refine g_istore (q := 90) B157 dL_divides_88 rfl (by decide) (L' := [(8, .int (iI 1)), (7, .int (iI stt)), (6, .int (iI bs)), (5, .int (iI (pG P 0))), (4, .int (iI sc)), (3, .int (iI fw)), (0, .ref (yA Y 72)), (1, .ref (yA Y 172)), (2, .int (iI x))]) rfl ?_
    refine g_goto (q := 215) B157 dL_divides_90 (by decide) ?_
    obtain ⟨Pa, hPa⟩ : ∃ z : PT, P = z := ⟨_, rfl⟩
    have ea : pG Pa = pG P := by rw [← hPa]
    have Va : OK Pa := by rw [← hPa]; exact V
    have Az : PK Pa S156 := by rw [← hPa]; exact A156
    have Dz : PK Pa (sS S156) := by rw [← hPa]; exact D156
    refine g_iload (q := 217) B157 dL_divides_215 rfl 2 rfl ?_
    refine g_iconst (q := 218) B157 dL_divides_217 rfl ?_
    refine g_icmp_eq (t := 449) (q := 221) B157 dL_divides_218 (by decide) rfl ⟨by omega, by omega⟩ ⟨by omega, by omega⟩ (fun cq218 => ?_) (fun cq218 => ?_)
    · refine g_iload (q := 451) B157 dL_divides_449 rfl 0 rfl ?_
      refine g_if_eq (t := 484) (q := 454) B157 dL_divides_451 (by decide) rfl ⟨by omega, by omega⟩ (fun cq451 => absurd cq451 (by decide)) (fun cq451 => ?_)
      refine g_aload_n (q := 455) B157 dL_divides_454 rfl 6 rfl ?_
      refine g_iconst (q := 456) B157 dL_divides_455 rfl ?_
      refine g_iconst (q := 457) B157 dL_divides_456 rfl ?_
      refine g_iconst (q := 458) B157 dL_divides_457 rfl ?_
      refine g_iconst (q := 459) B157 dL_divides_458 rfl ?_
      refine g_callN (q := 462) (m1 := 1) (c2 := 7) (As := [.ref (yA Y 72), .int (iI 2), .int (iI 1), .int (iI 0), .int (iI 0)]) (st := []) B157 dL_divides_459 rfl (k_about (Y := Y) (S := S156) hst Az Va.1 1 ⟨by omega, by omega⟩ 0 0 (x := stt) (hx := (by rw [ea]; exact hstt))) eL_call w179 (by decide) rfl rfl (Nat.le_of_ble_eq_true rfl) (by omega) (Nat.le_trans (show 7 ≤ 40 by omega) E.2.1) (Nat.le_trans (show 6 * (7) ≤ 6 * 40 by omega) E.2.2) (fun v S158 hS158 => ?_)
      obtain ⟨rfl, A158, K158⟩ := hS158
      have D158 := PK_o2 Dz K158
      have B159 := gB_K (c := 7) B157 (Nat.le_trans (show 7 ≤ 40 by omega) E.2.1) (Nat.le_trans (show 6 * (7) ≤ 6 * 40 by omega) E.2.2)
      show gW Y (xK X (7)) S158 462 [(8, .int (iI 1)), (7, .int (iI stt)), (6, .int (iI bs)), (5, .int (iI (pG P 0))), (4, .int (iI sc)), (3, .int (iI fw)), (0, .ref (yA Y 72)), (1, .ref (yA Y 172)), (2, .int (iI x))] [.int (iI stt)]
      refine g_iload (q := 464) B159 dL_divides_462 rfl 1 rfl ?_
      refine g_icmp_ne (t := 484) (q := 467) B159 dL_divides_464 (by decide) rfl ⟨by omega, by omega⟩ ⟨by omega, by omega⟩ (fun cq464 => absurd cq464 (by omega)) (fun cq464 => ?_)
      refine g_aload_n (q := 468) B159 dL_divides_467 rfl 6 rfl ?_
      refine g_bipush (q := 470) B159 dL_divides_468 rfl (by decide) ?_
      refine g_iconst (q := 471) B159 dL_divides_470 rfl ?_
      refine g_iconst (q := 472) B159 dL_divides_471 rfl ?_
      refine g_iconst (q := 473) B159 dL_divides_472 rfl ?_
      refine g_callN (q := 476) (m1 := 1) (c2 := 8) (As := [.ref (yA Y 72), .int (iI 16), .int (iI 0), .int (iI 0), .int (iI 0)]) (st := []) B159 dL_divides_473 rfl (k_fewest (Y := Y) (S := S158) hst A158 Va.1 0 ⟨by omega, by omega⟩ 0 0 (x := fw) (hx := (by rw [ea]; exact hfw))) eL_call w179 (by decide) rfl rfl (Nat.le_of_ble_eq_true rfl) (by omega) (Nat.le_trans (show 8 ≤ 40 by omega) E.2.1) (Nat.le_trans (show 6 * (8) ≤ 6 * 40 by omega) E.2.2) (fun v S160 hS160 => ?_)
      obtain ⟨rfl, A160, K160⟩ := hS160
      have D160 := PK_o2 D158 K160
      have B161 := gB_K (c := 8) B159 (Nat.le_trans (show 8 ≤ 40 by omega) E.2.1) (Nat.le_trans (show 6 * (8) ≤ 6 * 40 by omega) E.2.2)
      show gW Y (xK X (8)) S160 476 [(8, .int (iI 1)), (7, .int (iI stt)), (6, .int (iI bs)), (5, .int (iI (pG P 0))), (4, .int (iI sc)), (3, .int (iI fw)), (0, .ref (yA Y 72)), (1, .ref (yA Y 172)), (2, .int (iI x))] [.int (iI fw)]
      refine g_iload_n (q := 477) B161 dL_divides_476 rfl 5 rfl ?_
      refine g_icmp_ne (t := 484) (q := 480) B161 dL_divides_477 (by decide) rfl ⟨by omega, by omega⟩ ⟨by omega, by omega⟩ (fun cq477 => absurd cq477 (by omega)) (fun cq477 => ?_)
      refine g_iconst (q := 481) B161 dL_divides_480 rfl ?_
      refine g_goto (q := 485) B161 dL_divides_481 (by decide) ?_
      exact gn_zret B161 E (by omega) dL_divides_485 rfl (by decide) ⟨rfl, Pa, Va, A160, D160⟩
    · have hnb : bs ≠ -1 := fun z => absurd z (by omega)
      have bz := bb.2 hnb
      obtain ⟨lf, hlf⟩ : ∃ z : Int, fewF (brkG (pG P) bs) = z := ⟨_, rfl⟩
      have lr := few_in (brkG (pG P) bs)
      rw [hlf] at bz lr
      obtain ⟨P3, hP3⟩ : ∃ z : PT, pPush Pa (brkG (pG P) bs) = z := ⟨_, rfl⟩
      have e3 : pG P3 = brkG (pG P) bs := by rw [← hP3]; rfl
      have n3 : brkG (pG P) bs 0 = pG P 0 := n_brk bs
      have w3 := wf_brkG hw bs
      have b3 : brkG (pG P) bs 1 = bs := by
        have h1 : brkG (pG P) bs = brkF (pG P) bs := if_pos bz.1
        rw [h1]; rfl
      have V3 : OK P3 := by rw [← hP3]; exact ok_push0 Va w3 (by rw [ea]; exact n3)
      have b4 := bz.2.2.2 oth m1.1 m1.2
      obtain ⟨iz, hiz⟩ : ∃ z : Int, fewF (brkG (brkG (pG P) bs) oth) = z := ⟨_, rfl⟩
      have ir := few_in (brkG (brkG (pG P) bs) oth)
      rw [hiz] at b4 ir
      obtain ⟨P4, hP4⟩ : ∃ z : PT, pPush P3 (brkG (brkG (pG P) bs) oth) = z := ⟨_, rfl⟩
      have e4 : pG P4 = brkG (brkG (pG P) bs) oth := by rw [← hP4]; rfl
      have n4 : brkG (brkG (pG P) bs) oth 0 = pG P3 0 := by rw [e3]; exact n_brk oth
      have w4 := wf_brkG w3 oth
      have V4 : OK P4 := by rw [← hP4]; exact ok_push0 V3 w4 n4
      have k4 : 1 < pK P4 := by rw [← hP4, ← hP3]; exact pK_2 Pa _ _ Va.1
      have k4b := V4.1.2.2.1
      have k4 : 0 < pK P4 := by omega
      obtain ⟨P5, hP5⟩ : ∃ z : PT, pUndo P4 = z := ⟨_, rfl⟩
      have V5 : OK P5 := by rw [← hP5, ← hP4]; exact ok_un V3 w4 n4
      have k5 : pK P5 = pK P4 - 1 := by rw [← hP5]; rfl
      have k5b := V5.1.2.2.1
      have k5 : 0 < pK P5 := by rw [k5, ← hP4, ← hP3]; have := pK_2 Pa (brkG (pG P) bs) (brkG (brkG (pG P) bs) oth) Va.1; omega
      obtain ⟨P6, hP6⟩ : ∃ z : PT, pUndo P5 = z := ⟨_, rfl⟩
      have e6 : pG P6 = pG P := by rw [← hP6, ← hP5, ← hP4, ← hP3]; exact (un_2 Pa _ _ Va.1).trans ea
      have V6 : OK P6 := by
        have h6 : 4 ≤ pG P6 0 := by rw [e6]; exact C.1
        rw [← hP6] at h6 ⊢
        exact ok_undo V5 k5 h6
      refine g_iload (q := 223) B157 dL_divides_221 rfl 0 rfl ?_
      refine g_if_eq (t := 449) (q := 226) B157 dL_divides_223 (by decide) rfl ⟨by omega, by omega⟩ (fun cq223 => absurd cq223 (by decide)) (fun cq223 => ?_)
      refine g_iload_n (q := 227) B157 dL_divides_226 rfl 8 rfl ?_
      refine g_iload (q := 229) B157 dL_divides_227 rfl 3 rfl ?_
      refine g_irem (q := 230) B157 dL_divides_229 rfl (by omega) (by omega) (by omega) (by omega) ?_
      refine g_eqT (st' := [.int (iI oth)]) (by rw [hoth]) ?_
      refine g_istore (q := 232) B157 dL_divides_230 rfl (by decide) (L' := [(9, .int (iI oth)), (8, .int (iI 1)), (7, .int (iI stt)), (6, .int (iI bs)), (5, .int (iI (pG P 0))), (4, .int (iI sc)), (3, .int (iI fw)), (0, .ref (yA Y 72)), (1, .ref (yA Y 172)), (2, .int (iI x))]) rfl ?_
      refine g_aload_n (q := 233) B157 dL_divides_232 rfl 7 rfl ?_
      refine g_bipush (q := 235) B157 dL_divides_233 rfl (by decide) ?_
      refine g_iload (q := 237) B157 dL_divides_235 rfl 3 rfl ?_
      refine g_iconst (q := 238) B157 dL_divides_237 rfl ?_
      refine g_iconst (q := 239) B157 dL_divides_238 rfl ?_
      refine g_callN (q := 242) (m1 := 1) (c2 := 7) (As := [.ref (yA Y 72), .int (iI 9), .int (iI bs), .int (iI 0), .int (iI 0)]) (st := []) B157 dL_divides_239 rfl (k_breakAt (Y := Y) (S := S156) hst Az Va.1 bs ⟨by omega, by omega⟩ 0 0 (x := stt) (hx := (by rw [ea]; exact (tv_0 (cd_brk0 bz.1.1 bz.1.2)).trans hstt)) (P' := P3) (hP := (by rw [ea]; exact (if_pos (cd_brk0 bz.1.1 bz.1.2)).trans hP3))) eL_call w179 (by decide) rfl rfl (Nat.le_of_ble_eq_true rfl) (by omega) (Nat.le_trans (show 7 ≤ 40 by omega) E.2.1) (Nat.le_trans (show 6 * (7) ≤ 6 * 40 by omega) E.2.2) (fun v S162 hS162 => ?_)
      obtain ⟨rfl, A162, K162⟩ := hS162
      have D162 := PK_o2 Dz K162
      have B163 := gB_K (c := 7) B157 (Nat.le_trans (show 7 ≤ 40 by omega) E.2.1) (Nat.le_trans (show 6 * (7) ≤ 6 * 40 by omega) E.2.2)
      show gW Y (xK X (7)) S162 242 [(9, .int (iI oth)), (8, .int (iI 1)), (7, .int (iI stt)), (6, .int (iI bs)), (5, .int (iI (pG P 0))), (4, .int (iI sc)), (3, .int (iI fw)), (0, .ref (yA Y 72)), (1, .ref (yA Y 172)), (2, .int (iI x))] [.int (iI stt)]
      refine g_iload (q := 244) B163 dL_divides_242 rfl 2 rfl ?_
      refine g_icmp_ne (t := 266) (q := 247) B163 dL_divides_244 (by decide) rfl ⟨by omega, by omega⟩ ⟨by omega, by omega⟩ (fun cq244 => absurd cq244 (by omega)) (fun cq244 => ?_)
      refine g_aload_n (q := 248) B163 dL_divides_247 rfl 8 rfl ?_
      refine g_bipush (q := 250) B163 dL_divides_248 rfl (by decide) ?_
      refine g_iload (q := 252) B163 dL_divides_250 rfl 3 rfl ?_
      refine g_iconst (q := 253) B163 dL_divides_252 rfl ?_
      refine g_iconst (q := 254) B163 dL_divides_253 rfl ?_
      refine g_callN (q := 257) (m1 := 1) (c2 := 8) (As := [.ref (yA Y 172), .int (iI 9), .int (iI bs), .int (iI 0), .int (iI 0)]) (st := []) B163 dL_divides_254 rfl (gN_sw (k_breakAt (Y := ySw Y) (S := sS S162) hst D162 Va.1 bs ⟨by omega, by omega⟩ 0 0 (x := stt) (hx := (by rw [ea]; exact (tv_0 (cd_brk0 bz.1.1 bz.1.2)).trans hstt)) (P' := P3) (hP := (by rw [ea]; exact (if_pos (cd_brk0 bz.1.1 bz.1.2)).trans hP3)))) eL_call w179 (by decide) rfl rfl (Nat.le_of_ble_eq_true rfl) (by omega) (Nat.le_trans (show 8 ≤ 40 by omega) E.2.1) (Nat.le_trans (show 6 * (8) ≤ 6 * 40 by omega) E.2.2) (fun v S164 hS164 => ?_)
      obtain ⟨rfl, D164, K164⟩ := hS164
      have A164 := PK_o1 A162 K164
      have B165 := gB_K (c := 8) B163 (Nat.le_trans (show 8 ≤ 40 by omega) E.2.1) (Nat.le_trans (show 6 * (8) ≤ 6 * 40 by omega) E.2.2)
      show gW Y (xK X (8)) S164 257 [(9, .int (iI oth)), (8, .int (iI 1)), (7, .int (iI stt)), (6, .int (iI bs)), (5, .int (iI (pG P 0))), (4, .int (iI sc)), (3, .int (iI fw)), (0, .ref (yA Y 72)), (1, .ref (yA Y 172)), (2, .int (iI x))] [.int (iI stt)]
      refine g_iload (q := 259) B165 dL_divides_257 rfl 2 rfl ?_
      refine g_icmp_ne (t := 266) (q := 262) B165 dL_divides_259 (by decide) rfl ⟨by omega, by omega⟩ ⟨by omega, by omega⟩ (fun cq259 => absurd cq259 (by omega)) (fun cq259 => ?_)
      refine g_iconst (q := 263) B165 dL_divides_262 rfl ?_
      refine g_goto (q := 267) B165 dL_divides_263 (by decide) ?_
      refine g_istore (q := 269) B165 dL_divides_267 rfl (by decide) (L' := [(8, .int (iI 1)), (9, .int (iI oth)), (7, .int (iI stt)), (6, .int (iI bs)), (5, .int (iI (pG P 0))), (4, .int (iI sc)), (3, .int (iI fw)), (0, .ref (yA Y 72)), (1, .ref (yA Y 172)), (2, .int (iI x))]) rfl ?_
      refine g_aload_n (q := 270) B165 dL_divides_269 rfl 7 rfl ?_
      refine g_bipush (q := 272) B165 dL_divides_270 rfl (by decide) ?_
      refine g_iconst (q := 273) B165 dL_divides_272 rfl ?_
      refine g_iconst (q := 274) B165 dL_divides_273 rfl ?_
      refine g_iconst (q := 275) B165 dL_divides_274 rfl ?_
      refine g_callN (q := 278) (m1 := 1) (c2 := 9) (As := [.ref (yA Y 72), .int (iI 16), .int (iI 0), .int (iI 0), .int (iI 0)]) (st := []) B165 dL_divides_275 rfl (k_fewest (Y := Y) (S := S164) hst A164 V3.1 0 ⟨by omega, by omega⟩ 0 0 (x := lf) (hx := (by rw [e3]; exact hlf))) eL_call w179 (by decide) rfl rfl (Nat.le_of_ble_eq_true rfl) (by omega) (Nat.le_trans (show 9 ≤ 40 by omega) E.2.1) (Nat.le_trans (show 6 * (9) ≤ 6 * 40 by omega) E.2.2) (fun v S166 hS166 => ?_)
      obtain ⟨rfl, A166, K166⟩ := hS166
      have D166 := PK_o2 D164 K166
      have B167 := gB_K (c := 9) B165 (Nat.le_trans (show 9 ≤ 40 by omega) E.2.1) (Nat.le_trans (show 6 * (9) ≤ 6 * 40 by omega) E.2.2)
      show gW Y (xK X (9)) S166 278 [(8, .int (iI 1)), (9, .int (iI oth)), (7, .int (iI stt)), (6, .int (iI bs)), (5, .int (iI (pG P 0))), (4, .int (iI sc)), (3, .int (iI fw)), (0, .ref (yA Y 72)), (1, .ref (yA Y 172)), (2, .int (iI x))] [.int (iI lf)]
      refine g_istore (q := 280) B167 dL_divides_278 rfl (by decide) (L' := [(10, .int (iI lf)), (8, .int (iI 1)), (9, .int (iI oth)), (7, .int (iI stt)), (6, .int (iI bs)), (5, .int (iI (pG P 0))), (4, .int (iI sc)), (3, .int (iI fw)), (0, .ref (yA Y 72)), (1, .ref (yA Y 172)), (2, .int (iI x))]) rfl ?_
      refine g_iload (q := 282) B167 dL_divides_280 rfl 1 rfl ?_
      refine g_if_eq (t := 336) (q := 285) B167 dL_divides_282 (by decide) rfl ⟨by omega, by omega⟩ (fun cq282 => absurd cq282 (by decide)) (fun cq282 => ?_)
      refine g_iload (q := 287) B167 dL_divides_285 rfl 0 rfl ?_
      refine g_iconst (q := 288) B167 dL_divides_287 rfl ?_
      refine g_icmp_eq (t := 336) (q := 291) B167 dL_divides_288 (by decide) rfl ⟨by omega, by omega⟩ ⟨by omega, by omega⟩ (fun cq288 => absurd cq288 (by omega)) (fun cq288 => ?_)
      refine g_iload_n (q := 292) B167 dL_divides_291 rfl 7 rfl ?_
      refine g_iconst (q := 293) B167 dL_divides_292 rfl ?_
      refine g_icmp_eq (t := 302) (q := 296) B167 dL_divides_293 (by decide) rfl ⟨by omega, by omega⟩ ⟨by omega, by omega⟩ (fun cq293 => ?_) (fun cq293 => absurd cq293 (by omega))
      refine g_aload_n (q := 303) B167 dL_divides_302 rfl 8 rfl ?_
      refine g_bipush (q := 305) B167 dL_divides_303 rfl (by decide) ?_
      refine g_iload (q := 307) B167 dL_divides_305 rfl 2 rfl ?_
      refine g_iconst (q := 308) B167 dL_divides_307 rfl ?_
      refine g_iconst (q := 309) B167 dL_divides_308 rfl ?_
      refine g_callN (q := 312) (m1 := 1) (c2 := 10) (As := [.ref (yA Y 72), .int (iI 9), .int (iI oth), .int (iI 0), .int (iI 0)]) (st := []) B167 dL_divides_309 rfl (k_breakAt (Y := Y) (S := S166) hst A166 V3.1 oth ⟨by omega, by omega⟩ 0 0 (x := bs) (hx := (by rw [e3]; exact (tv_0 (cd_brk0 m1.1 (by rw [n3]; exact m1.2))).trans b3)) (P' := P4) (hP := (by rw [e3]; exact (if_pos (cd_brk0 m1.1 (by rw [n3]; exact m1.2))).trans hP4))) eL_call w179 (by decide) rfl rfl (Nat.le_of_ble_eq_true rfl) (by omega) (Nat.le_trans (show 10 ≤ 40 by omega) E.2.1) (Nat.le_trans (show 6 * (10) ≤ 6 * 40 by omega) E.2.2) (fun v S168 hS168 => ?_)
      obtain ⟨rfl, A168, K168⟩ := hS168
      have D168 := PK_o2 D166 K168
      have B169 := gB_K (c := 10) B167 (Nat.le_trans (show 10 ≤ 40 by omega) E.2.1) (Nat.le_trans (show 6 * (10) ≤ 6 * 40 by omega) E.2.2)
      show gW Y (xK X (10)) S168 312 [(10, .int (iI lf)), (8, .int (iI 1)), (9, .int (iI oth)), (7, .int (iI stt)), (6, .int (iI bs)), (5, .int (iI (pG P 0))), (4, .int (iI sc)), (3, .int (iI fw)), (0, .ref (yA Y 72)), (1, .ref (yA Y 172)), (2, .int (iI x))] [.int (iI bs)]
      refine g_iload (q := 314) B169 dL_divides_312 rfl 4 rfl ?_
      refine g_icmp_ne (t := 336) (q := 317) B169 dL_divides_314 (by decide) rfl ⟨by omega, by omega⟩ ⟨by omega, by omega⟩ (fun cq314 => absurd cq314 (by omega)) (fun cq314 => ?_)
      refine g_aload_n (q := 318) B169 dL_divides_317 rfl 9 rfl ?_
      refine g_bipush (q := 320) B169 dL_divides_318 rfl (by decide) ?_
      refine g_iload (q := 322) B169 dL_divides_320 rfl 2 rfl ?_
      refine g_iconst (q := 323) B169 dL_divides_322 rfl ?_
      refine g_iconst (q := 324) B169 dL_divides_323 rfl ?_
      refine g_callN (q := 327) (m1 := 1) (c2 := 11) (As := [.ref (yA Y 172), .int (iI 9), .int (iI oth), .int (iI 0), .int (iI 0)]) (st := []) B169 dL_divides_324 rfl (gN_sw (k_breakAt (Y := ySw Y) (S := sS S168) hst D168 V3.1 oth ⟨by omega, by omega⟩ 0 0 (x := bs) (hx := (by rw [e3]; exact (tv_0 (cd_brk0 m1.1 (by rw [n3]; exact m1.2))).trans b3)) (P' := P4) (hP := (by rw [e3]; exact (if_pos (cd_brk0 m1.1 (by rw [n3]; exact m1.2))).trans hP4)))) eL_call w179 (by decide) rfl rfl (Nat.le_of_ble_eq_true rfl) (by omega) (Nat.le_trans (show 11 ≤ 40 by omega) E.2.1) (Nat.le_trans (show 6 * (11) ≤ 6 * 40 by omega) E.2.2) (fun v S170 hS170 => ?_)
      obtain ⟨rfl, D170, K170⟩ := hS170
      have A170 := PK_o1 A168 K170
      have B171 := gB_K (c := 11) B169 (Nat.le_trans (show 11 ≤ 40 by omega) E.2.1) (Nat.le_trans (show 6 * (11) ≤ 6 * 40 by omega) E.2.2)
      show gW Y (xK X (11)) S170 327 [(10, .int (iI lf)), (8, .int (iI 1)), (9, .int (iI oth)), (7, .int (iI stt)), (6, .int (iI bs)), (5, .int (iI (pG P 0))), (4, .int (iI sc)), (3, .int (iI fw)), (0, .ref (yA Y 72)), (1, .ref (yA Y 172)), (2, .int (iI x))] [.int (iI bs)]
      refine g_iload (q := 329) B171 dL_divides_327 rfl 4 rfl ?_
      refine g_icmp_ne (t := 336) (q := 332) B171 dL_divides_329 (by decide) rfl ⟨by omega, by omega⟩ ⟨by omega, by omega⟩ (fun cq329 => absurd cq329 (by omega)) (fun cq329 => ?_)
      refine g_iconst (q := 333) B171 dL_divides_332 rfl ?_
      refine g_goto (q := 337) B171 dL_divides_333 (by decide) ?_
      refine g_istore (q := 339) B171 dL_divides_337 rfl (by decide) (L' := [(8, .int (iI 1)), (10, .int (iI lf)), (9, .int (iI oth)), (7, .int (iI stt)), (6, .int (iI bs)), (5, .int (iI (pG P 0))), (4, .int (iI sc)), (3, .int (iI fw)), (0, .ref (yA Y 72)), (1, .ref (yA Y 172)), (2, .int (iI x))]) rfl ?_
      refine g_aload_n (q := 340) B171 dL_divides_339 rfl 8 rfl ?_
      refine g_bipush (q := 342) B171 dL_divides_340 rfl (by decide) ?_
      refine g_iconst (q := 343) B171 dL_divides_342 rfl ?_
      refine g_iconst (q := 344) B171 dL_divides_343 rfl ?_
      refine g_iconst (q := 345) B171 dL_divides_344 rfl ?_
      refine g_callN (q := 348) (m1 := 1) (c2 := 12) (As := [.ref (yA Y 72), .int (iI 16), .int (iI 1), .int (iI 0), .int (iI 0)]) (st := []) B171 dL_divides_345 rfl (k_fewest (Y := Y) (S := S170) hst A170 V4.1 1 ⟨by omega, by omega⟩ 0 0 (x := iz) (hx := (by rw [e4]; exact hiz))) eL_call w179 (by decide) rfl rfl (Nat.le_of_ble_eq_true rfl) (by omega) (Nat.le_trans (show 12 ≤ 40 by omega) E.2.1) (Nat.le_trans (show 6 * (12) ≤ 6 * 40 by omega) E.2.2) (fun v S172 hS172 => ?_)
      obtain ⟨rfl, A172, K172⟩ := hS172
      have D172 := PK_o2 D170 K172
      have B173 := gB_K (c := 12) B171 (Nat.le_trans (show 12 ≤ 40 by omega) E.2.1) (Nat.le_trans (show 6 * (12) ≤ 6 * 40 by omega) E.2.2)
      show gW Y (xK X (12)) S172 348 [(8, .int (iI 1)), (10, .int (iI lf)), (9, .int (iI oth)), (7, .int (iI stt)), (6, .int (iI bs)), (5, .int (iI (pG P 0))), (4, .int (iI sc)), (3, .int (iI fw)), (0, .ref (yA Y 72)), (1, .ref (yA Y 172)), (2, .int (iI x))] [.int (iI iz)]
      refine g_istore (q := 350) B173 dL_divides_348 rfl (by decide) (L' := [(11, .int (iI iz)), (8, .int (iI 1)), (10, .int (iI lf)), (9, .int (iI oth)), (7, .int (iI stt)), (6, .int (iI bs)), (5, .int (iI (pG P 0))), (4, .int (iI sc)), (3, .int (iI fw)), (0, .ref (yA Y 72)), (1, .ref (yA Y 172)), (2, .int (iI x))]) rfl ?_
      refine g_iload (q := 352) B173 dL_divides_350 rfl 1 rfl ?_
      refine g_if_eq (t := 446) (q := 355) B173 dL_divides_352 (by decide) rfl ⟨by omega, by omega⟩ (fun cq352 => absurd cq352 (by decide)) (fun cq352 => ?_)
      refine g_iload (q := 357) B173 dL_divides_355 rfl 0 rfl ?_
      refine g_iconst (q := 358) B173 dL_divides_357 rfl ?_
      refine g_icmp_eq (t := 382) (q := 361) B173 dL_divides_358 (by decide) rfl ⟨by omega, by omega⟩ ⟨by omega, by omega⟩ (fun cq358 => ?_) (fun cq358 => ?_)
      · refine g_aload_n (q := 383) B173 dL_divides_382 rfl 9 rfl ?_
        refine g_bipush (q := 385) B173 dL_divides_383 rfl (by decide) ?_
        refine g_iconst (q := 386) B173 dL_divides_385 rfl ?_
        refine g_iconst (q := 387) B173 dL_divides_386 rfl ?_
        refine g_iconst (q := 388) B173 dL_divides_387 rfl ?_
        refine g_callN (q := 391) (m1 := 1) (c2 := 13) (As := [.ref (yA Y 72), .int (iI 15), .int (iI 0), .int (iI 0), .int (iI 0)]) (st := []) B173 dL_divides_388 rfl (k_undo (Y := Y) (S := S172) hst A172 V4.1  0 0 0 (x := pK P4 - 1) (hx := tv_0 (cd_undo0 k4)) (P' := P5) (hP := (if_pos (cd_undo0 k4)).trans hP5)) eL_call w179 (by decide) rfl rfl (Nat.le_of_ble_eq_true rfl) (by omega) (Nat.le_trans (show 13 ≤ 40 by omega) E.2.1) (Nat.le_trans (show 6 * (13) ≤ 6 * 40 by omega) E.2.2) (fun v S174 hS174 => ?_)
        obtain ⟨rfl, A174, K174⟩ := hS174
        have D174 := PK_o2 D172 K174
        have B175 := gB_K (c := 13) B173 (Nat.le_trans (show 13 ≤ 40 by omega) E.2.1) (Nat.le_trans (show 6 * (13) ≤ 6 * 40 by omega) E.2.2)
        show gW Y (xK X (13)) S174 391 [(11, .int (iI iz)), (8, .int (iI 1)), (10, .int (iI lf)), (9, .int (iI oth)), (7, .int (iI stt)), (6, .int (iI bs)), (5, .int (iI (pG P 0))), (4, .int (iI sc)), (3, .int (iI fw)), (0, .ref (yA Y 72)), (1, .ref (yA Y 172)), (2, .int (iI x))] [.int (iI (pK P4 - 1))]
        refine g_callN (q := 394) (m1 := 0) (c2 := 13) (As := [.int (iI (pK P4 - 1))]) (st := []) B175 dL_divides_391 rfl (c_thrown (Y := Y) (S := S174) (pK P4 - 1) ⟨by omega, by omega⟩ (by omega)) eL_thrown w937 (by decide) rfl rfl (Nat.le_of_ble_eq_true rfl) (by omega) (Nat.le_trans (show 13 ≤ 40 by omega) E.2.1) (Nat.le_trans (show 6 * (13) ≤ 6 * 40 by omega) E.2.2) (fun v S176 hS176 => ?_)
        obtain ⟨rfl, eS176⟩ := hS176
        rw [eS176]
        show gW Y (xK X (13)) S174 394 [(11, .int (iI iz)), (8, .int (iI 1)), (10, .int (iI lf)), (9, .int (iI oth)), (7, .int (iI stt)), (6, .int (iI bs)), (5, .int (iI (pG P 0))), (4, .int (iI sc)), (3, .int (iI fw)), (0, .ref (yA Y 72)), (1, .ref (yA Y 172)), (2, .int (iI x))] [.int (iI 0)]
        refine g_if_ne (t := 446) (q := 397) B175 dL_divides_394 (by decide) rfl ⟨by omega, by omega⟩ (fun cq394 => absurd cq394 (by decide)) (fun cq394 => ?_)
        refine g_aload_n (q := 398) B175 dL_divides_397 rfl 10 rfl ?_
        refine g_bipush (q := 400) B175 dL_divides_398 rfl (by decide) ?_
        refine g_iconst (q := 401) B175 dL_divides_400 rfl ?_
        refine g_iconst (q := 402) B175 dL_divides_401 rfl ?_
        refine g_iconst (q := 403) B175 dL_divides_402 rfl ?_
        refine g_callN (q := 406) (m1 := 1) (c2 := 14) (As := [.ref (yA Y 172), .int (iI 15), .int (iI 0), .int (iI 0), .int (iI 0)]) (st := []) B175 dL_divides_403 rfl (gN_sw (k_undo (Y := ySw Y) (S := sS S174) hst D174 V4.1  0 0 0 (x := pK P4 - 1) (hx := tv_0 (cd_undo0 k4)) (P' := P5) (hP := (if_pos (cd_undo0 k4)).trans hP5))) eL_call w179 (by decide) rfl rfl (Nat.le_of_ble_eq_true rfl) (by omega) (Nat.le_trans (show 14 ≤ 40 by omega) E.2.1) (Nat.le_trans (show 6 * (14) ≤ 6 * 40 by omega) E.2.2) (fun v S177 hS177 => ?_)
        obtain ⟨rfl, D177, K177⟩ := hS177
        have A177 := PK_o1 A174 K177
        have B178 := gB_K (c := 14) B175 (Nat.le_trans (show 14 ≤ 40 by omega) E.2.1) (Nat.le_trans (show 6 * (14) ≤ 6 * 40 by omega) E.2.2)
        show gW Y (xK X (14)) S177 406 [(11, .int (iI iz)), (8, .int (iI 1)), (10, .int (iI lf)), (9, .int (iI oth)), (7, .int (iI stt)), (6, .int (iI bs)), (5, .int (iI (pG P 0))), (4, .int (iI sc)), (3, .int (iI fw)), (0, .ref (yA Y 72)), (1, .ref (yA Y 172)), (2, .int (iI x))] [.int (iI (pK P4 - 1))]
        refine g_callN (q := 409) (m1 := 0) (c2 := 14) (As := [.int (iI (pK P4 - 1))]) (st := []) B178 dL_divides_406 rfl (c_thrown (Y := Y) (S := S177) (pK P4 - 1) ⟨by omega, by omega⟩ (by omega)) eL_thrown w937 (by decide) rfl rfl (Nat.le_of_ble_eq_true rfl) (by omega) (Nat.le_trans (show 14 ≤ 40 by omega) E.2.1) (Nat.le_trans (show 6 * (14) ≤ 6 * 40 by omega) E.2.2) (fun v S179 hS179 => ?_)
        obtain ⟨rfl, eS179⟩ := hS179
        rw [eS179]
        show gW Y (xK X (14)) S177 409 [(11, .int (iI iz)), (8, .int (iI 1)), (10, .int (iI lf)), (9, .int (iI oth)), (7, .int (iI stt)), (6, .int (iI bs)), (5, .int (iI (pG P 0))), (4, .int (iI sc)), (3, .int (iI fw)), (0, .ref (yA Y 72)), (1, .ref (yA Y 172)), (2, .int (iI x))] [.int (iI 0)]
        refine g_if_ne (t := 446) (q := 412) B178 dL_divides_409 (by decide) rfl ⟨by omega, by omega⟩ (fun cq409 => absurd cq409 (by decide)) (fun cq409 => ?_)
        refine g_aload_n (q := 413) B178 dL_divides_412 rfl 9 rfl ?_
        refine g_bipush (q := 415) B178 dL_divides_413 rfl (by decide) ?_
        refine g_iconst (q := 416) B178 dL_divides_415 rfl ?_
        refine g_iconst (q := 417) B178 dL_divides_416 rfl ?_
        refine g_iconst (q := 418) B178 dL_divides_417 rfl ?_
        refine g_callN (q := 421) (m1 := 1) (c2 := 15) (As := [.ref (yA Y 72), .int (iI 15), .int (iI 0), .int (iI 0), .int (iI 0)]) (st := []) B178 dL_divides_418 rfl (k_undo (Y := Y) (S := S177) hst A177 V5.1  0 0 0 (x := pK P5 - 1) (hx := tv_0 (cd_undo0 k5)) (P' := P6) (hP := (if_pos (cd_undo0 k5)).trans hP6)) eL_call w179 (by decide) rfl rfl (Nat.le_of_ble_eq_true rfl) (by omega) (Nat.le_trans (show 15 ≤ 40 by omega) E.2.1) (Nat.le_trans (show 6 * (15) ≤ 6 * 40 by omega) E.2.2) (fun v S180 hS180 => ?_)
        obtain ⟨rfl, A180, K180⟩ := hS180
        have D180 := PK_o2 D177 K180
        have B181 := gB_K (c := 15) B178 (Nat.le_trans (show 15 ≤ 40 by omega) E.2.1) (Nat.le_trans (show 6 * (15) ≤ 6 * 40 by omega) E.2.2)
        show gW Y (xK X (15)) S180 421 [(11, .int (iI iz)), (8, .int (iI 1)), (10, .int (iI lf)), (9, .int (iI oth)), (7, .int (iI stt)), (6, .int (iI bs)), (5, .int (iI (pG P 0))), (4, .int (iI sc)), (3, .int (iI fw)), (0, .ref (yA Y 72)), (1, .ref (yA Y 172)), (2, .int (iI x))] [.int (iI (pK P5 - 1))]
        refine g_callN (q := 424) (m1 := 0) (c2 := 15) (As := [.int (iI (pK P5 - 1))]) (st := []) B181 dL_divides_421 rfl (c_thrown (Y := Y) (S := S180) (pK P5 - 1) ⟨by omega, by omega⟩ (by omega)) eL_thrown w937 (by decide) rfl rfl (Nat.le_of_ble_eq_true rfl) (by omega) (Nat.le_trans (show 15 ≤ 40 by omega) E.2.1) (Nat.le_trans (show 6 * (15) ≤ 6 * 40 by omega) E.2.2) (fun v S182 hS182 => ?_)
        obtain ⟨rfl, eS182⟩ := hS182
        rw [eS182]
        show gW Y (xK X (15)) S180 424 [(11, .int (iI iz)), (8, .int (iI 1)), (10, .int (iI lf)), (9, .int (iI oth)), (7, .int (iI stt)), (6, .int (iI bs)), (5, .int (iI (pG P 0))), (4, .int (iI sc)), (3, .int (iI fw)), (0, .ref (yA Y 72)), (1, .ref (yA Y 172)), (2, .int (iI x))] [.int (iI 0)]
        refine g_if_ne (t := 446) (q := 427) B181 dL_divides_424 (by decide) rfl ⟨by omega, by omega⟩ (fun cq424 => absurd cq424 (by decide)) (fun cq424 => ?_)
        refine g_aload_n (q := 428) B181 dL_divides_427 rfl 10 rfl ?_
        refine g_bipush (q := 430) B181 dL_divides_428 rfl (by decide) ?_
        refine g_iconst (q := 431) B181 dL_divides_430 rfl ?_
        refine g_iconst (q := 432) B181 dL_divides_431 rfl ?_
        refine g_iconst (q := 433) B181 dL_divides_432 rfl ?_
        refine g_callN (q := 436) (m1 := 1) (c2 := 16) (As := [.ref (yA Y 172), .int (iI 15), .int (iI 0), .int (iI 0), .int (iI 0)]) (st := []) B181 dL_divides_433 rfl (gN_sw (k_undo (Y := ySw Y) (S := sS S180) hst D180 V5.1  0 0 0 (x := pK P5 - 1) (hx := tv_0 (cd_undo0 k5)) (P' := P6) (hP := (if_pos (cd_undo0 k5)).trans hP6))) eL_call w179 (by decide) rfl rfl (Nat.le_of_ble_eq_true rfl) (by omega) (Nat.le_trans (show 16 ≤ 40 by omega) E.2.1) (Nat.le_trans (show 6 * (16) ≤ 6 * 40 by omega) E.2.2) (fun v S183 hS183 => ?_)
        obtain ⟨rfl, D183, K183⟩ := hS183
        have A183 := PK_o1 A180 K183
        have B184 := gB_K (c := 16) B181 (Nat.le_trans (show 16 ≤ 40 by omega) E.2.1) (Nat.le_trans (show 6 * (16) ≤ 6 * 40 by omega) E.2.2)
        show gW Y (xK X (16)) S183 436 [(11, .int (iI iz)), (8, .int (iI 1)), (10, .int (iI lf)), (9, .int (iI oth)), (7, .int (iI stt)), (6, .int (iI bs)), (5, .int (iI (pG P 0))), (4, .int (iI sc)), (3, .int (iI fw)), (0, .ref (yA Y 72)), (1, .ref (yA Y 172)), (2, .int (iI x))] [.int (iI (pK P5 - 1))]
        refine g_callN (q := 439) (m1 := 0) (c2 := 16) (As := [.int (iI (pK P5 - 1))]) (st := []) B184 dL_divides_436 rfl (c_thrown (Y := Y) (S := S183) (pK P5 - 1) ⟨by omega, by omega⟩ (by omega)) eL_thrown w937 (by decide) rfl rfl (Nat.le_of_ble_eq_true rfl) (by omega) (Nat.le_trans (show 16 ≤ 40 by omega) E.2.1) (Nat.le_trans (show 6 * (16) ≤ 6 * 40 by omega) E.2.2) (fun v S185 hS185 => ?_)
        obtain ⟨rfl, eS185⟩ := hS185
        rw [eS185]
        show gW Y (xK X (16)) S183 439 [(11, .int (iI iz)), (8, .int (iI 1)), (10, .int (iI lf)), (9, .int (iI oth)), (7, .int (iI stt)), (6, .int (iI bs)), (5, .int (iI (pG P 0))), (4, .int (iI sc)), (3, .int (iI fw)), (0, .ref (yA Y 72)), (1, .ref (yA Y 172)), (2, .int (iI x))] [.int (iI 0)]
        refine g_if_ne (t := 446) (q := 442) B184 dL_divides_439 (by decide) rfl ⟨by omega, by omega⟩ (fun cq439 => absurd cq439 (by decide)) (fun cq439 => ?_)
        refine g_iconst (q := 443) B184 dL_divides_442 rfl ?_
        refine g_goto (q := 447) B184 dL_divides_443 (by decide) ?_
        refine g_istore (q := 449) B184 dL_divides_447 rfl (by decide) (L' := [(8, .int (iI 1)), (11, .int (iI iz)), (10, .int (iI lf)), (9, .int (iI oth)), (7, .int (iI stt)), (6, .int (iI bs)), (5, .int (iI (pG P 0))), (4, .int (iI sc)), (3, .int (iI fw)), (0, .ref (yA Y 72)), (1, .ref (yA Y 172)), (2, .int (iI x))]) rfl ?_
        refine g_iload (q := 451) B184 dL_divides_449 rfl 0 rfl ?_
        refine g_if_eq (t := 484) (q := 454) B184 dL_divides_451 (by decide) rfl ⟨by omega, by omega⟩ (fun cq451 => absurd cq451 (by decide)) (fun cq451 => ?_)
        refine g_aload_n (q := 455) B184 dL_divides_454 rfl 9 rfl ?_
        refine g_iconst (q := 456) B184 dL_divides_455 rfl ?_
        refine g_iconst (q := 457) B184 dL_divides_456 rfl ?_
        refine g_iconst (q := 458) B184 dL_divides_457 rfl ?_
        refine g_iconst (q := 459) B184 dL_divides_458 rfl ?_
        refine g_callN (q := 462) (m1 := 1) (c2 := 17) (As := [.ref (yA Y 72), .int (iI 2), .int (iI 1), .int (iI 0), .int (iI 0)]) (st := []) B184 dL_divides_459 rfl (k_about (Y := Y) (S := S183) hst A183 V6.1 1 ⟨by omega, by omega⟩ 0 0 (x := stt) (hx := (by rw [e6]; exact hstt))) eL_call w179 (by decide) rfl rfl (Nat.le_of_ble_eq_true rfl) (by omega) (Nat.le_trans (show 17 ≤ 40 by omega) E.2.1) (Nat.le_trans (show 6 * (17) ≤ 6 * 40 by omega) E.2.2) (fun v S186 hS186 => ?_)
        obtain ⟨rfl, A186, K186⟩ := hS186
        have D186 := PK_o2 D183 K186
        have B187 := gB_K (c := 17) B184 (Nat.le_trans (show 17 ≤ 40 by omega) E.2.1) (Nat.le_trans (show 6 * (17) ≤ 6 * 40 by omega) E.2.2)
        show gW Y (xK X (17)) S186 462 [(8, .int (iI 1)), (11, .int (iI iz)), (10, .int (iI lf)), (9, .int (iI oth)), (7, .int (iI stt)), (6, .int (iI bs)), (5, .int (iI (pG P 0))), (4, .int (iI sc)), (3, .int (iI fw)), (0, .ref (yA Y 72)), (1, .ref (yA Y 172)), (2, .int (iI x))] [.int (iI stt)]
        refine g_iload (q := 464) B187 dL_divides_462 rfl 4 rfl ?_
        refine g_icmp_ne (t := 484) (q := 467) B187 dL_divides_464 (by decide) rfl ⟨by omega, by omega⟩ ⟨by omega, by omega⟩ (fun cq464 => absurd cq464 (by omega)) (fun cq464 => ?_)
        refine g_aload_n (q := 468) B187 dL_divides_467 rfl 9 rfl ?_
        refine g_bipush (q := 470) B187 dL_divides_468 rfl (by decide) ?_
        refine g_iconst (q := 471) B187 dL_divides_470 rfl ?_
        refine g_iconst (q := 472) B187 dL_divides_471 rfl ?_
        refine g_iconst (q := 473) B187 dL_divides_472 rfl ?_
        refine g_callN (q := 476) (m1 := 1) (c2 := 18) (As := [.ref (yA Y 72), .int (iI 16), .int (iI 0), .int (iI 0), .int (iI 0)]) (st := []) B187 dL_divides_473 rfl (k_fewest (Y := Y) (S := S186) hst A186 V6.1 0 ⟨by omega, by omega⟩ 0 0 (x := fw) (hx := (by rw [e6]; exact hfw))) eL_call w179 (by decide) rfl rfl (Nat.le_of_ble_eq_true rfl) (by omega) (Nat.le_trans (show 18 ≤ 40 by omega) E.2.1) (Nat.le_trans (show 6 * (18) ≤ 6 * 40 by omega) E.2.2) (fun v S188 hS188 => ?_)
        obtain ⟨rfl, A188, K188⟩ := hS188
        have D188 := PK_o2 D186 K188
        have B189 := gB_K (c := 18) B187 (Nat.le_trans (show 18 ≤ 40 by omega) E.2.1) (Nat.le_trans (show 6 * (18) ≤ 6 * 40 by omega) E.2.2)
        show gW Y (xK X (18)) S188 476 [(8, .int (iI 1)), (11, .int (iI iz)), (10, .int (iI lf)), (9, .int (iI oth)), (7, .int (iI stt)), (6, .int (iI bs)), (5, .int (iI (pG P 0))), (4, .int (iI sc)), (3, .int (iI fw)), (0, .ref (yA Y 72)), (1, .ref (yA Y 172)), (2, .int (iI x))] [.int (iI fw)]
        refine g_iload_n (q := 477) B189 dL_divides_476 rfl 8 rfl ?_
        refine g_icmp_ne (t := 484) (q := 480) B189 dL_divides_477 (by decide) rfl ⟨by omega, by omega⟩ ⟨by omega, by omega⟩ (fun cq477 => absurd cq477 (by omega)) (fun cq477 => ?_)
        refine g_iconst (q := 481) B189 dL_divides_480 rfl ?_
        refine g_goto (q := 485) B189 dL_divides_481 (by decide) ?_
        exact gn_zret B189 E (by omega) dL_divides_485 rfl (by decide) ⟨rfl, P6, V6, A188, D188⟩
      · refine g_iload (q := 363) B173 dL_divides_361 rfl 0 rfl ?_
        refine g_iload (q := 365) B173 dL_divides_363 rfl 2 rfl ?_
        refine g_icmp_gt (t := 382) (q := 368) B173 dL_divides_365 (by decide) rfl ⟨by omega, by omega⟩ ⟨by omega, by omega⟩ (fun cq365 => ?_) (fun cq365 => ?_)
        · refine g_aload_n (q := 383) B173 dL_divides_382 rfl 9 rfl ?_
          refine g_bipush (q := 385) B173 dL_divides_383 rfl (by decide) ?_
          refine g_iconst (q := 386) B173 dL_divides_385 rfl ?_
          refine g_iconst (q := 387) B173 dL_divides_386 rfl ?_
          refine g_iconst (q := 388) B173 dL_divides_387 rfl ?_
          refine g_callN (q := 391) (m1 := 1) (c2 := 13) (As := [.ref (yA Y 72), .int (iI 15), .int (iI 0), .int (iI 0), .int (iI 0)]) (st := []) B173 dL_divides_388 rfl (k_undo (Y := Y) (S := S172) hst A172 V4.1  0 0 0 (x := pK P4 - 1) (hx := tv_0 (cd_undo0 k4)) (P' := P5) (hP := (if_pos (cd_undo0 k4)).trans hP5)) eL_call w179 (by decide) rfl rfl (Nat.le_of_ble_eq_true rfl) (by omega) (Nat.le_trans (show 13 ≤ 40 by omega) E.2.1) (Nat.le_trans (show 6 * (13) ≤ 6 * 40 by omega) E.2.2) (fun v S190 hS190 => ?_)
          obtain ⟨rfl, A190, K190⟩ := hS190
          have D190 := PK_o2 D172 K190
          have B191 := gB_K (c := 13) B173 (Nat.le_trans (show 13 ≤ 40 by omega) E.2.1) (Nat.le_trans (show 6 * (13) ≤ 6 * 40 by omega) E.2.2)
          show gW Y (xK X (13)) S190 391 [(11, .int (iI iz)), (8, .int (iI 1)), (10, .int (iI lf)), (9, .int (iI oth)), (7, .int (iI stt)), (6, .int (iI bs)), (5, .int (iI (pG P 0))), (4, .int (iI sc)), (3, .int (iI fw)), (0, .ref (yA Y 72)), (1, .ref (yA Y 172)), (2, .int (iI x))] [.int (iI (pK P4 - 1))]
          refine g_callN (q := 394) (m1 := 0) (c2 := 13) (As := [.int (iI (pK P4 - 1))]) (st := []) B191 dL_divides_391 rfl (c_thrown (Y := Y) (S := S190) (pK P4 - 1) ⟨by omega, by omega⟩ (by omega)) eL_thrown w937 (by decide) rfl rfl (Nat.le_of_ble_eq_true rfl) (by omega) (Nat.le_trans (show 13 ≤ 40 by omega) E.2.1) (Nat.le_trans (show 6 * (13) ≤ 6 * 40 by omega) E.2.2) (fun v S192 hS192 => ?_)
          obtain ⟨rfl, eS192⟩ := hS192
          rw [eS192]
          show gW Y (xK X (13)) S190 394 [(11, .int (iI iz)), (8, .int (iI 1)), (10, .int (iI lf)), (9, .int (iI oth)), (7, .int (iI stt)), (6, .int (iI bs)), (5, .int (iI (pG P 0))), (4, .int (iI sc)), (3, .int (iI fw)), (0, .ref (yA Y 72)), (1, .ref (yA Y 172)), (2, .int (iI x))] [.int (iI 0)]
          refine g_if_ne (t := 446) (q := 397) B191 dL_divides_394 (by decide) rfl ⟨by omega, by omega⟩ (fun cq394 => absurd cq394 (by decide)) (fun cq394 => ?_)
          refine g_aload_n (q := 398) B191 dL_divides_397 rfl 10 rfl ?_
          refine g_bipush (q := 400) B191 dL_divides_398 rfl (by decide) ?_
          refine g_iconst (q := 401) B191 dL_divides_400 rfl ?_
          refine g_iconst (q := 402) B191 dL_divides_401 rfl ?_
          refine g_iconst (q := 403) B191 dL_divides_402 rfl ?_
          refine g_callN (q := 406) (m1 := 1) (c2 := 14) (As := [.ref (yA Y 172), .int (iI 15), .int (iI 0), .int (iI 0), .int (iI 0)]) (st := []) B191 dL_divides_403 rfl (gN_sw (k_undo (Y := ySw Y) (S := sS S190) hst D190 V4.1  0 0 0 (x := pK P4 - 1) (hx := tv_0 (cd_undo0 k4)) (P' := P5) (hP := (if_pos (cd_undo0 k4)).trans hP5))) eL_call w179 (by decide) rfl rfl (Nat.le_of_ble_eq_true rfl) (by omega) (Nat.le_trans (show 14 ≤ 40 by omega) E.2.1) (Nat.le_trans (show 6 * (14) ≤ 6 * 40 by omega) E.2.2) (fun v S193 hS193 => ?_)
          obtain ⟨rfl, D193, K193⟩ := hS193
          have A193 := PK_o1 A190 K193
          have B194 := gB_K (c := 14) B191 (Nat.le_trans (show 14 ≤ 40 by omega) E.2.1) (Nat.le_trans (show 6 * (14) ≤ 6 * 40 by omega) E.2.2)
          show gW Y (xK X (14)) S193 406 [(11, .int (iI iz)), (8, .int (iI 1)), (10, .int (iI lf)), (9, .int (iI oth)), (7, .int (iI stt)), (6, .int (iI bs)), (5, .int (iI (pG P 0))), (4, .int (iI sc)), (3, .int (iI fw)), (0, .ref (yA Y 72)), (1, .ref (yA Y 172)), (2, .int (iI x))] [.int (iI (pK P4 - 1))]
          refine g_callN (q := 409) (m1 := 0) (c2 := 14) (As := [.int (iI (pK P4 - 1))]) (st := []) B194 dL_divides_406 rfl (c_thrown (Y := Y) (S := S193) (pK P4 - 1) ⟨by omega, by omega⟩ (by omega)) eL_thrown w937 (by decide) rfl rfl (Nat.le_of_ble_eq_true rfl) (by omega) (Nat.le_trans (show 14 ≤ 40 by omega) E.2.1) (Nat.le_trans (show 6 * (14) ≤ 6 * 40 by omega) E.2.2) (fun v S195 hS195 => ?_)
          obtain ⟨rfl, eS195⟩ := hS195
          rw [eS195]
          show gW Y (xK X (14)) S193 409 [(11, .int (iI iz)), (8, .int (iI 1)), (10, .int (iI lf)), (9, .int (iI oth)), (7, .int (iI stt)), (6, .int (iI bs)), (5, .int (iI (pG P 0))), (4, .int (iI sc)), (3, .int (iI fw)), (0, .ref (yA Y 72)), (1, .ref (yA Y 172)), (2, .int (iI x))] [.int (iI 0)]
          refine g_if_ne (t := 446) (q := 412) B194 dL_divides_409 (by decide) rfl ⟨by omega, by omega⟩ (fun cq409 => absurd cq409 (by decide)) (fun cq409 => ?_)
          refine g_aload_n (q := 413) B194 dL_divides_412 rfl 9 rfl ?_
          refine g_bipush (q := 415) B194 dL_divides_413 rfl (by decide) ?_
          refine g_iconst (q := 416) B194 dL_divides_415 rfl ?_
          refine g_iconst (q := 417) B194 dL_divides_416 rfl ?_
          refine g_iconst (q := 418) B194 dL_divides_417 rfl ?_
          refine g_callN (q := 421) (m1 := 1) (c2 := 15) (As := [.ref (yA Y 72), .int (iI 15), .int (iI 0), .int (iI 0), .int (iI 0)]) (st := []) B194 dL_divides_418 rfl (k_undo (Y := Y) (S := S193) hst A193 V5.1  0 0 0 (x := pK P5 - 1) (hx := tv_0 (cd_undo0 k5)) (P' := P6) (hP := (if_pos (cd_undo0 k5)).trans hP6)) eL_call w179 (by decide) rfl rfl (Nat.le_of_ble_eq_true rfl) (by omega) (Nat.le_trans (show 15 ≤ 40 by omega) E.2.1) (Nat.le_trans (show 6 * (15) ≤ 6 * 40 by omega) E.2.2) (fun v S196 hS196 => ?_)
          obtain ⟨rfl, A196, K196⟩ := hS196
          have D196 := PK_o2 D193 K196
          have B197 := gB_K (c := 15) B194 (Nat.le_trans (show 15 ≤ 40 by omega) E.2.1) (Nat.le_trans (show 6 * (15) ≤ 6 * 40 by omega) E.2.2)
          show gW Y (xK X (15)) S196 421 [(11, .int (iI iz)), (8, .int (iI 1)), (10, .int (iI lf)), (9, .int (iI oth)), (7, .int (iI stt)), (6, .int (iI bs)), (5, .int (iI (pG P 0))), (4, .int (iI sc)), (3, .int (iI fw)), (0, .ref (yA Y 72)), (1, .ref (yA Y 172)), (2, .int (iI x))] [.int (iI (pK P5 - 1))]
          refine g_callN (q := 424) (m1 := 0) (c2 := 15) (As := [.int (iI (pK P5 - 1))]) (st := []) B197 dL_divides_421 rfl (c_thrown (Y := Y) (S := S196) (pK P5 - 1) ⟨by omega, by omega⟩ (by omega)) eL_thrown w937 (by decide) rfl rfl (Nat.le_of_ble_eq_true rfl) (by omega) (Nat.le_trans (show 15 ≤ 40 by omega) E.2.1) (Nat.le_trans (show 6 * (15) ≤ 6 * 40 by omega) E.2.2) (fun v S198 hS198 => ?_)
          obtain ⟨rfl, eS198⟩ := hS198
          rw [eS198]
          show gW Y (xK X (15)) S196 424 [(11, .int (iI iz)), (8, .int (iI 1)), (10, .int (iI lf)), (9, .int (iI oth)), (7, .int (iI stt)), (6, .int (iI bs)), (5, .int (iI (pG P 0))), (4, .int (iI sc)), (3, .int (iI fw)), (0, .ref (yA Y 72)), (1, .ref (yA Y 172)), (2, .int (iI x))] [.int (iI 0)]
          refine g_if_ne (t := 446) (q := 427) B197 dL_divides_424 (by decide) rfl ⟨by omega, by omega⟩ (fun cq424 => absurd cq424 (by decide)) (fun cq424 => ?_)
          refine g_aload_n (q := 428) B197 dL_divides_427 rfl 10 rfl ?_
          refine g_bipush (q := 430) B197 dL_divides_428 rfl (by decide) ?_
          refine g_iconst (q := 431) B197 dL_divides_430 rfl ?_
          refine g_iconst (q := 432) B197 dL_divides_431 rfl ?_
          refine g_iconst (q := 433) B197 dL_divides_432 rfl ?_
          refine g_callN (q := 436) (m1 := 1) (c2 := 16) (As := [.ref (yA Y 172), .int (iI 15), .int (iI 0), .int (iI 0), .int (iI 0)]) (st := []) B197 dL_divides_433 rfl (gN_sw (k_undo (Y := ySw Y) (S := sS S196) hst D196 V5.1  0 0 0 (x := pK P5 - 1) (hx := tv_0 (cd_undo0 k5)) (P' := P6) (hP := (if_pos (cd_undo0 k5)).trans hP6))) eL_call w179 (by decide) rfl rfl (Nat.le_of_ble_eq_true rfl) (by omega) (Nat.le_trans (show 16 ≤ 40 by omega) E.2.1) (Nat.le_trans (show 6 * (16) ≤ 6 * 40 by omega) E.2.2) (fun v S199 hS199 => ?_)
          obtain ⟨rfl, D199, K199⟩ := hS199
          have A199 := PK_o1 A196 K199
          have B200 := gB_K (c := 16) B197 (Nat.le_trans (show 16 ≤ 40 by omega) E.2.1) (Nat.le_trans (show 6 * (16) ≤ 6 * 40 by omega) E.2.2)
          show gW Y (xK X (16)) S199 436 [(11, .int (iI iz)), (8, .int (iI 1)), (10, .int (iI lf)), (9, .int (iI oth)), (7, .int (iI stt)), (6, .int (iI bs)), (5, .int (iI (pG P 0))), (4, .int (iI sc)), (3, .int (iI fw)), (0, .ref (yA Y 72)), (1, .ref (yA Y 172)), (2, .int (iI x))] [.int (iI (pK P5 - 1))]
          refine g_callN (q := 439) (m1 := 0) (c2 := 16) (As := [.int (iI (pK P5 - 1))]) (st := []) B200 dL_divides_436 rfl (c_thrown (Y := Y) (S := S199) (pK P5 - 1) ⟨by omega, by omega⟩ (by omega)) eL_thrown w937 (by decide) rfl rfl (Nat.le_of_ble_eq_true rfl) (by omega) (Nat.le_trans (show 16 ≤ 40 by omega) E.2.1) (Nat.le_trans (show 6 * (16) ≤ 6 * 40 by omega) E.2.2) (fun v S201 hS201 => ?_)
          obtain ⟨rfl, eS201⟩ := hS201
          rw [eS201]
          show gW Y (xK X (16)) S199 439 [(11, .int (iI iz)), (8, .int (iI 1)), (10, .int (iI lf)), (9, .int (iI oth)), (7, .int (iI stt)), (6, .int (iI bs)), (5, .int (iI (pG P 0))), (4, .int (iI sc)), (3, .int (iI fw)), (0, .ref (yA Y 72)), (1, .ref (yA Y 172)), (2, .int (iI x))] [.int (iI 0)]
          refine g_if_ne (t := 446) (q := 442) B200 dL_divides_439 (by decide) rfl ⟨by omega, by omega⟩ (fun cq439 => absurd cq439 (by decide)) (fun cq439 => ?_)
          refine g_iconst (q := 443) B200 dL_divides_442 rfl ?_
          refine g_goto (q := 447) B200 dL_divides_443 (by decide) ?_
          refine g_istore (q := 449) B200 dL_divides_447 rfl (by decide) (L' := [(8, .int (iI 1)), (11, .int (iI iz)), (10, .int (iI lf)), (9, .int (iI oth)), (7, .int (iI stt)), (6, .int (iI bs)), (5, .int (iI (pG P 0))), (4, .int (iI sc)), (3, .int (iI fw)), (0, .ref (yA Y 72)), (1, .ref (yA Y 172)), (2, .int (iI x))]) rfl ?_
          refine g_iload (q := 451) B200 dL_divides_449 rfl 0 rfl ?_
          refine g_if_eq (t := 484) (q := 454) B200 dL_divides_451 (by decide) rfl ⟨by omega, by omega⟩ (fun cq451 => absurd cq451 (by decide)) (fun cq451 => ?_)
          refine g_aload_n (q := 455) B200 dL_divides_454 rfl 9 rfl ?_
          refine g_iconst (q := 456) B200 dL_divides_455 rfl ?_
          refine g_iconst (q := 457) B200 dL_divides_456 rfl ?_
          refine g_iconst (q := 458) B200 dL_divides_457 rfl ?_
          refine g_iconst (q := 459) B200 dL_divides_458 rfl ?_
          refine g_callN (q := 462) (m1 := 1) (c2 := 17) (As := [.ref (yA Y 72), .int (iI 2), .int (iI 1), .int (iI 0), .int (iI 0)]) (st := []) B200 dL_divides_459 rfl (k_about (Y := Y) (S := S199) hst A199 V6.1 1 ⟨by omega, by omega⟩ 0 0 (x := stt) (hx := (by rw [e6]; exact hstt))) eL_call w179 (by decide) rfl rfl (Nat.le_of_ble_eq_true rfl) (by omega) (Nat.le_trans (show 17 ≤ 40 by omega) E.2.1) (Nat.le_trans (show 6 * (17) ≤ 6 * 40 by omega) E.2.2) (fun v S202 hS202 => ?_)
          obtain ⟨rfl, A202, K202⟩ := hS202
          have D202 := PK_o2 D199 K202
          have B203 := gB_K (c := 17) B200 (Nat.le_trans (show 17 ≤ 40 by omega) E.2.1) (Nat.le_trans (show 6 * (17) ≤ 6 * 40 by omega) E.2.2)
          show gW Y (xK X (17)) S202 462 [(8, .int (iI 1)), (11, .int (iI iz)), (10, .int (iI lf)), (9, .int (iI oth)), (7, .int (iI stt)), (6, .int (iI bs)), (5, .int (iI (pG P 0))), (4, .int (iI sc)), (3, .int (iI fw)), (0, .ref (yA Y 72)), (1, .ref (yA Y 172)), (2, .int (iI x))] [.int (iI stt)]
          refine g_iload (q := 464) B203 dL_divides_462 rfl 4 rfl ?_
          refine g_icmp_ne (t := 484) (q := 467) B203 dL_divides_464 (by decide) rfl ⟨by omega, by omega⟩ ⟨by omega, by omega⟩ (fun cq464 => absurd cq464 (by omega)) (fun cq464 => ?_)
          refine g_aload_n (q := 468) B203 dL_divides_467 rfl 9 rfl ?_
          refine g_bipush (q := 470) B203 dL_divides_468 rfl (by decide) ?_
          refine g_iconst (q := 471) B203 dL_divides_470 rfl ?_
          refine g_iconst (q := 472) B203 dL_divides_471 rfl ?_
          refine g_iconst (q := 473) B203 dL_divides_472 rfl ?_
          refine g_callN (q := 476) (m1 := 1) (c2 := 18) (As := [.ref (yA Y 72), .int (iI 16), .int (iI 0), .int (iI 0), .int (iI 0)]) (st := []) B203 dL_divides_473 rfl (k_fewest (Y := Y) (S := S202) hst A202 V6.1 0 ⟨by omega, by omega⟩ 0 0 (x := fw) (hx := (by rw [e6]; exact hfw))) eL_call w179 (by decide) rfl rfl (Nat.le_of_ble_eq_true rfl) (by omega) (Nat.le_trans (show 18 ≤ 40 by omega) E.2.1) (Nat.le_trans (show 6 * (18) ≤ 6 * 40 by omega) E.2.2) (fun v S204 hS204 => ?_)
          obtain ⟨rfl, A204, K204⟩ := hS204
          have D204 := PK_o2 D202 K204
          have B205 := gB_K (c := 18) B203 (Nat.le_trans (show 18 ≤ 40 by omega) E.2.1) (Nat.le_trans (show 6 * (18) ≤ 6 * 40 by omega) E.2.2)
          show gW Y (xK X (18)) S204 476 [(8, .int (iI 1)), (11, .int (iI iz)), (10, .int (iI lf)), (9, .int (iI oth)), (7, .int (iI stt)), (6, .int (iI bs)), (5, .int (iI (pG P 0))), (4, .int (iI sc)), (3, .int (iI fw)), (0, .ref (yA Y 72)), (1, .ref (yA Y 172)), (2, .int (iI x))] [.int (iI fw)]
          refine g_iload_n (q := 477) B205 dL_divides_476 rfl 8 rfl ?_
          refine g_icmp_ne (t := 484) (q := 480) B205 dL_divides_477 (by decide) rfl ⟨by omega, by omega⟩ ⟨by omega, by omega⟩ (fun cq477 => absurd cq477 (by omega)) (fun cq477 => ?_)
          refine g_iconst (q := 481) B205 dL_divides_480 rfl ?_
          refine g_goto (q := 485) B205 dL_divides_481 (by decide) ?_
          exact gn_zret B205 E (by omega) dL_divides_485 rfl (by decide) ⟨rfl, P6, V6, A204, D204⟩
        · refine g_iload (q := 370) B173 dL_divides_368 rfl 0 rfl ?_
          refine g_iload (q := 372) B173 dL_divides_370 rfl 2 rfl ?_
          refine g_icmp_ne (t := 446) (q := 375) B173 dL_divides_372 (by decide) rfl ⟨by omega, by omega⟩ ⟨by omega, by omega⟩ (fun cq372 => absurd cq372 (by omega)) (fun cq372 => ?_)
          refine g_iload (q := 377) B173 dL_divides_375 rfl 3 rfl ?_
          refine g_iload (q := 379) B173 dL_divides_377 rfl 5 rfl ?_
          refine g_icmp_lt (t := 446) (q := 382) B173 dL_divides_379 (by decide) rfl ⟨by omega, by omega⟩ ⟨by omega, by omega⟩ (fun cq379 => absurd cq379 (by omega)) (fun cq379 => ?_)
          refine g_aload_n (q := 383) B173 dL_divides_382 rfl 9 rfl ?_
          refine g_bipush (q := 385) B173 dL_divides_383 rfl (by decide) ?_
          refine g_iconst (q := 386) B173 dL_divides_385 rfl ?_
          refine g_iconst (q := 387) B173 dL_divides_386 rfl ?_
          refine g_iconst (q := 388) B173 dL_divides_387 rfl ?_
          refine g_callN (q := 391) (m1 := 1) (c2 := 13) (As := [.ref (yA Y 72), .int (iI 15), .int (iI 0), .int (iI 0), .int (iI 0)]) (st := []) B173 dL_divides_388 rfl (k_undo (Y := Y) (S := S172) hst A172 V4.1  0 0 0 (x := pK P4 - 1) (hx := tv_0 (cd_undo0 k4)) (P' := P5) (hP := (if_pos (cd_undo0 k4)).trans hP5)) eL_call w179 (by decide) rfl rfl (Nat.le_of_ble_eq_true rfl) (by omega) (Nat.le_trans (show 13 ≤ 40 by omega) E.2.1) (Nat.le_trans (show 6 * (13) ≤ 6 * 40 by omega) E.2.2) (fun v S206 hS206 => ?_)
          obtain ⟨rfl, A206, K206⟩ := hS206
          have D206 := PK_o2 D172 K206
          have B207 := gB_K (c := 13) B173 (Nat.le_trans (show 13 ≤ 40 by omega) E.2.1) (Nat.le_trans (show 6 * (13) ≤ 6 * 40 by omega) E.2.2)
          show gW Y (xK X (13)) S206 391 [(11, .int (iI iz)), (8, .int (iI 1)), (10, .int (iI lf)), (9, .int (iI oth)), (7, .int (iI stt)), (6, .int (iI bs)), (5, .int (iI (pG P 0))), (4, .int (iI sc)), (3, .int (iI fw)), (0, .ref (yA Y 72)), (1, .ref (yA Y 172)), (2, .int (iI x))] [.int (iI (pK P4 - 1))]
          refine g_callN (q := 394) (m1 := 0) (c2 := 13) (As := [.int (iI (pK P4 - 1))]) (st := []) B207 dL_divides_391 rfl (c_thrown (Y := Y) (S := S206) (pK P4 - 1) ⟨by omega, by omega⟩ (by omega)) eL_thrown w937 (by decide) rfl rfl (Nat.le_of_ble_eq_true rfl) (by omega) (Nat.le_trans (show 13 ≤ 40 by omega) E.2.1) (Nat.le_trans (show 6 * (13) ≤ 6 * 40 by omega) E.2.2) (fun v S208 hS208 => ?_)
          obtain ⟨rfl, eS208⟩ := hS208
          rw [eS208]
          show gW Y (xK X (13)) S206 394 [(11, .int (iI iz)), (8, .int (iI 1)), (10, .int (iI lf)), (9, .int (iI oth)), (7, .int (iI stt)), (6, .int (iI bs)), (5, .int (iI (pG P 0))), (4, .int (iI sc)), (3, .int (iI fw)), (0, .ref (yA Y 72)), (1, .ref (yA Y 172)), (2, .int (iI x))] [.int (iI 0)]
          refine g_if_ne (t := 446) (q := 397) B207 dL_divides_394 (by decide) rfl ⟨by omega, by omega⟩ (fun cq394 => absurd cq394 (by decide)) (fun cq394 => ?_)
          refine g_aload_n (q := 398) B207 dL_divides_397 rfl 10 rfl ?_
          refine g_bipush (q := 400) B207 dL_divides_398 rfl (by decide) ?_
          refine g_iconst (q := 401) B207 dL_divides_400 rfl ?_
          refine g_iconst (q := 402) B207 dL_divides_401 rfl ?_
          refine g_iconst (q := 403) B207 dL_divides_402 rfl ?_
          refine g_callN (q := 406) (m1 := 1) (c2 := 14) (As := [.ref (yA Y 172), .int (iI 15), .int (iI 0), .int (iI 0), .int (iI 0)]) (st := []) B207 dL_divides_403 rfl (gN_sw (k_undo (Y := ySw Y) (S := sS S206) hst D206 V4.1  0 0 0 (x := pK P4 - 1) (hx := tv_0 (cd_undo0 k4)) (P' := P5) (hP := (if_pos (cd_undo0 k4)).trans hP5))) eL_call w179 (by decide) rfl rfl (Nat.le_of_ble_eq_true rfl) (by omega) (Nat.le_trans (show 14 ≤ 40 by omega) E.2.1) (Nat.le_trans (show 6 * (14) ≤ 6 * 40 by omega) E.2.2) (fun v S209 hS209 => ?_)
          obtain ⟨rfl, D209, K209⟩ := hS209
          have A209 := PK_o1 A206 K209
          have B210 := gB_K (c := 14) B207 (Nat.le_trans (show 14 ≤ 40 by omega) E.2.1) (Nat.le_trans (show 6 * (14) ≤ 6 * 40 by omega) E.2.2)
          show gW Y (xK X (14)) S209 406 [(11, .int (iI iz)), (8, .int (iI 1)), (10, .int (iI lf)), (9, .int (iI oth)), (7, .int (iI stt)), (6, .int (iI bs)), (5, .int (iI (pG P 0))), (4, .int (iI sc)), (3, .int (iI fw)), (0, .ref (yA Y 72)), (1, .ref (yA Y 172)), (2, .int (iI x))] [.int (iI (pK P4 - 1))]
          refine g_callN (q := 409) (m1 := 0) (c2 := 14) (As := [.int (iI (pK P4 - 1))]) (st := []) B210 dL_divides_406 rfl (c_thrown (Y := Y) (S := S209) (pK P4 - 1) ⟨by omega, by omega⟩ (by omega)) eL_thrown w937 (by decide) rfl rfl (Nat.le_of_ble_eq_true rfl) (by omega) (Nat.le_trans (show 14 ≤ 40 by omega) E.2.1) (Nat.le_trans (show 6 * (14) ≤ 6 * 40 by omega) E.2.2) (fun v S211 hS211 => ?_)
          obtain ⟨rfl, eS211⟩ := hS211
          rw [eS211]
          show gW Y (xK X (14)) S209 409 [(11, .int (iI iz)), (8, .int (iI 1)), (10, .int (iI lf)), (9, .int (iI oth)), (7, .int (iI stt)), (6, .int (iI bs)), (5, .int (iI (pG P 0))), (4, .int (iI sc)), (3, .int (iI fw)), (0, .ref (yA Y 72)), (1, .ref (yA Y 172)), (2, .int (iI x))] [.int (iI 0)]
          refine g_if_ne (t := 446) (q := 412) B210 dL_divides_409 (by decide) rfl ⟨by omega, by omega⟩ (fun cq409 => absurd cq409 (by decide)) (fun cq409 => ?_)
          refine g_aload_n (q := 413) B210 dL_divides_412 rfl 9 rfl ?_
          refine g_bipush (q := 415) B210 dL_divides_413 rfl (by decide) ?_
          refine g_iconst (q := 416) B210 dL_divides_415 rfl ?_
          refine g_iconst (q := 417) B210 dL_divides_416 rfl ?_
          refine g_iconst (q := 418) B210 dL_divides_417 rfl ?_
          refine g_callN (q := 421) (m1 := 1) (c2 := 15) (As := [.ref (yA Y 72), .int (iI 15), .int (iI 0), .int (iI 0), .int (iI 0)]) (st := []) B210 dL_divides_418 rfl (k_undo (Y := Y) (S := S209) hst A209 V5.1  0 0 0 (x := pK P5 - 1) (hx := tv_0 (cd_undo0 k5)) (P' := P6) (hP := (if_pos (cd_undo0 k5)).trans hP6)) eL_call w179 (by decide) rfl rfl (Nat.le_of_ble_eq_true rfl) (by omega) (Nat.le_trans (show 15 ≤ 40 by omega) E.2.1) (Nat.le_trans (show 6 * (15) ≤ 6 * 40 by omega) E.2.2) (fun v S212 hS212 => ?_)
          obtain ⟨rfl, A212, K212⟩ := hS212
          have D212 := PK_o2 D209 K212
          have B213 := gB_K (c := 15) B210 (Nat.le_trans (show 15 ≤ 40 by omega) E.2.1) (Nat.le_trans (show 6 * (15) ≤ 6 * 40 by omega) E.2.2)
          show gW Y (xK X (15)) S212 421 [(11, .int (iI iz)), (8, .int (iI 1)), (10, .int (iI lf)), (9, .int (iI oth)), (7, .int (iI stt)), (6, .int (iI bs)), (5, .int (iI (pG P 0))), (4, .int (iI sc)), (3, .int (iI fw)), (0, .ref (yA Y 72)), (1, .ref (yA Y 172)), (2, .int (iI x))] [.int (iI (pK P5 - 1))]
          refine g_callN (q := 424) (m1 := 0) (c2 := 15) (As := [.int (iI (pK P5 - 1))]) (st := []) B213 dL_divides_421 rfl (c_thrown (Y := Y) (S := S212) (pK P5 - 1) ⟨by omega, by omega⟩ (by omega)) eL_thrown w937 (by decide) rfl rfl (Nat.le_of_ble_eq_true rfl) (by omega) (Nat.le_trans (show 15 ≤ 40 by omega) E.2.1) (Nat.le_trans (show 6 * (15) ≤ 6 * 40 by omega) E.2.2) (fun v S214 hS214 => ?_)
          obtain ⟨rfl, eS214⟩ := hS214
          rw [eS214]
          show gW Y (xK X (15)) S212 424 [(11, .int (iI iz)), (8, .int (iI 1)), (10, .int (iI lf)), (9, .int (iI oth)), (7, .int (iI stt)), (6, .int (iI bs)), (5, .int (iI (pG P 0))), (4, .int (iI sc)), (3, .int (iI fw)), (0, .ref (yA Y 72)), (1, .ref (yA Y 172)), (2, .int (iI x))] [.int (iI 0)]
          refine g_if_ne (t := 446) (q := 427) B213 dL_divides_424 (by decide) rfl ⟨by omega, by omega⟩ (fun cq424 => absurd cq424 (by decide)) (fun cq424 => ?_)
          refine g_aload_n (q := 428) B213 dL_divides_427 rfl 10 rfl ?_
          refine g_bipush (q := 430) B213 dL_divides_428 rfl (by decide) ?_
          refine g_iconst (q := 431) B213 dL_divides_430 rfl ?_
          refine g_iconst (q := 432) B213 dL_divides_431 rfl ?_
          refine g_iconst (q := 433) B213 dL_divides_432 rfl ?_
          refine g_callN (q := 436) (m1 := 1) (c2 := 16) (As := [.ref (yA Y 172), .int (iI 15), .int (iI 0), .int (iI 0), .int (iI 0)]) (st := []) B213 dL_divides_433 rfl (gN_sw (k_undo (Y := ySw Y) (S := sS S212) hst D212 V5.1  0 0 0 (x := pK P5 - 1) (hx := tv_0 (cd_undo0 k5)) (P' := P6) (hP := (if_pos (cd_undo0 k5)).trans hP6))) eL_call w179 (by decide) rfl rfl (Nat.le_of_ble_eq_true rfl) (by omega) (Nat.le_trans (show 16 ≤ 40 by omega) E.2.1) (Nat.le_trans (show 6 * (16) ≤ 6 * 40 by omega) E.2.2) (fun v S215 hS215 => ?_)
          obtain ⟨rfl, D215, K215⟩ := hS215
          have A215 := PK_o1 A212 K215
          have B216 := gB_K (c := 16) B213 (Nat.le_trans (show 16 ≤ 40 by omega) E.2.1) (Nat.le_trans (show 6 * (16) ≤ 6 * 40 by omega) E.2.2)
          show gW Y (xK X (16)) S215 436 [(11, .int (iI iz)), (8, .int (iI 1)), (10, .int (iI lf)), (9, .int (iI oth)), (7, .int (iI stt)), (6, .int (iI bs)), (5, .int (iI (pG P 0))), (4, .int (iI sc)), (3, .int (iI fw)), (0, .ref (yA Y 72)), (1, .ref (yA Y 172)), (2, .int (iI x))] [.int (iI (pK P5 - 1))]
          refine g_callN (q := 439) (m1 := 0) (c2 := 16) (As := [.int (iI (pK P5 - 1))]) (st := []) B216 dL_divides_436 rfl (c_thrown (Y := Y) (S := S215) (pK P5 - 1) ⟨by omega, by omega⟩ (by omega)) eL_thrown w937 (by decide) rfl rfl (Nat.le_of_ble_eq_true rfl) (by omega) (Nat.le_trans (show 16 ≤ 40 by omega) E.2.1) (Nat.le_trans (show 6 * (16) ≤ 6 * 40 by omega) E.2.2) (fun v S217 hS217 => ?_)
          obtain ⟨rfl, eS217⟩ := hS217
          rw [eS217]
          show gW Y (xK X (16)) S215 439 [(11, .int (iI iz)), (8, .int (iI 1)), (10, .int (iI lf)), (9, .int (iI oth)), (7, .int (iI stt)), (6, .int (iI bs)), (5, .int (iI (pG P 0))), (4, .int (iI sc)), (3, .int (iI fw)), (0, .ref (yA Y 72)), (1, .ref (yA Y 172)), (2, .int (iI x))] [.int (iI 0)]
          refine g_if_ne (t := 446) (q := 442) B216 dL_divides_439 (by decide) rfl ⟨by omega, by omega⟩ (fun cq439 => absurd cq439 (by decide)) (fun cq439 => ?_)
          refine g_iconst (q := 443) B216 dL_divides_442 rfl ?_
          refine g_goto (q := 447) B216 dL_divides_443 (by decide) ?_
          refine g_istore (q := 449) B216 dL_divides_447 rfl (by decide) (L' := [(8, .int (iI 1)), (11, .int (iI iz)), (10, .int (iI lf)), (9, .int (iI oth)), (7, .int (iI stt)), (6, .int (iI bs)), (5, .int (iI (pG P 0))), (4, .int (iI sc)), (3, .int (iI fw)), (0, .ref (yA Y 72)), (1, .ref (yA Y 172)), (2, .int (iI x))]) rfl ?_
          refine g_iload (q := 451) B216 dL_divides_449 rfl 0 rfl ?_
          refine g_if_eq (t := 484) (q := 454) B216 dL_divides_451 (by decide) rfl ⟨by omega, by omega⟩ (fun cq451 => absurd cq451 (by decide)) (fun cq451 => ?_)
          refine g_aload_n (q := 455) B216 dL_divides_454 rfl 9 rfl ?_
          refine g_iconst (q := 456) B216 dL_divides_455 rfl ?_
          refine g_iconst (q := 457) B216 dL_divides_456 rfl ?_
          refine g_iconst (q := 458) B216 dL_divides_457 rfl ?_
          refine g_iconst (q := 459) B216 dL_divides_458 rfl ?_
          refine g_callN (q := 462) (m1 := 1) (c2 := 17) (As := [.ref (yA Y 72), .int (iI 2), .int (iI 1), .int (iI 0), .int (iI 0)]) (st := []) B216 dL_divides_459 rfl (k_about (Y := Y) (S := S215) hst A215 V6.1 1 ⟨by omega, by omega⟩ 0 0 (x := stt) (hx := (by rw [e6]; exact hstt))) eL_call w179 (by decide) rfl rfl (Nat.le_of_ble_eq_true rfl) (by omega) (Nat.le_trans (show 17 ≤ 40 by omega) E.2.1) (Nat.le_trans (show 6 * (17) ≤ 6 * 40 by omega) E.2.2) (fun v S218 hS218 => ?_)
          obtain ⟨rfl, A218, K218⟩ := hS218
          have D218 := PK_o2 D215 K218
          have B219 := gB_K (c := 17) B216 (Nat.le_trans (show 17 ≤ 40 by omega) E.2.1) (Nat.le_trans (show 6 * (17) ≤ 6 * 40 by omega) E.2.2)
          show gW Y (xK X (17)) S218 462 [(8, .int (iI 1)), (11, .int (iI iz)), (10, .int (iI lf)), (9, .int (iI oth)), (7, .int (iI stt)), (6, .int (iI bs)), (5, .int (iI (pG P 0))), (4, .int (iI sc)), (3, .int (iI fw)), (0, .ref (yA Y 72)), (1, .ref (yA Y 172)), (2, .int (iI x))] [.int (iI stt)]
          refine g_iload (q := 464) B219 dL_divides_462 rfl 4 rfl ?_
          refine g_icmp_ne (t := 484) (q := 467) B219 dL_divides_464 (by decide) rfl ⟨by omega, by omega⟩ ⟨by omega, by omega⟩ (fun cq464 => absurd cq464 (by omega)) (fun cq464 => ?_)
          refine g_aload_n (q := 468) B219 dL_divides_467 rfl 9 rfl ?_
          refine g_bipush (q := 470) B219 dL_divides_468 rfl (by decide) ?_
          refine g_iconst (q := 471) B219 dL_divides_470 rfl ?_
          refine g_iconst (q := 472) B219 dL_divides_471 rfl ?_
          refine g_iconst (q := 473) B219 dL_divides_472 rfl ?_
          refine g_callN (q := 476) (m1 := 1) (c2 := 18) (As := [.ref (yA Y 72), .int (iI 16), .int (iI 0), .int (iI 0), .int (iI 0)]) (st := []) B219 dL_divides_473 rfl (k_fewest (Y := Y) (S := S218) hst A218 V6.1 0 ⟨by omega, by omega⟩ 0 0 (x := fw) (hx := (by rw [e6]; exact hfw))) eL_call w179 (by decide) rfl rfl (Nat.le_of_ble_eq_true rfl) (by omega) (Nat.le_trans (show 18 ≤ 40 by omega) E.2.1) (Nat.le_trans (show 6 * (18) ≤ 6 * 40 by omega) E.2.2) (fun v S220 hS220 => ?_)
          obtain ⟨rfl, A220, K220⟩ := hS220
          have D220 := PK_o2 D218 K220
          have B221 := gB_K (c := 18) B219 (Nat.le_trans (show 18 ≤ 40 by omega) E.2.1) (Nat.le_trans (show 6 * (18) ≤ 6 * 40 by omega) E.2.2)
          show gW Y (xK X (18)) S220 476 [(8, .int (iI 1)), (11, .int (iI iz)), (10, .int (iI lf)), (9, .int (iI oth)), (7, .int (iI stt)), (6, .int (iI bs)), (5, .int (iI (pG P 0))), (4, .int (iI sc)), (3, .int (iI fw)), (0, .ref (yA Y 72)), (1, .ref (yA Y 172)), (2, .int (iI x))] [.int (iI fw)]
          refine g_iload_n (q := 477) B221 dL_divides_476 rfl 8 rfl ?_
          refine g_icmp_ne (t := 484) (q := 480) B221 dL_divides_477 (by decide) rfl ⟨by omega, by omega⟩ ⟨by omega, by omega⟩ (fun cq477 => absurd cq477 (by omega)) (fun cq477 => ?_)
          refine g_iconst (q := 481) B221 dL_divides_480 rfl ?_
          refine g_goto (q := 485) B221 dL_divides_481 (by decide) ?_
          exact gn_zret B221 E (by omega) dL_divides_485 rfl (by decide) ⟨rfl, P6, V6, A220, D220⟩
