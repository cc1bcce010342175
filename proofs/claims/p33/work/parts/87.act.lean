/-! THE LAW'S METHODS OF ONE OBJECT -/
def aCome (P : PT) (k w : Int) : Int × PT := (tv (cd_jewel (pG P) k w) (pG P 0) (-9999001) (-9999002) (-9999003), if cd_jewel (pG P) k w = 0 then pPush P (addG (pG P) k w) else P)
def aCut (P : PT) (p b : Int) : Int × PT := (tv (cd_cut (pG P) p) (runsF (cutG (pG P) p b)) (-9999001) 0 0, if cd_cut (pG P) p = 0 then pPush P (cutG (pG P) p b) else P)
def aGive (P : PT) (r o : Int) : Int × PT := (tv (cd_give (pG P) r o) (gapF (giveG (pG P) r o)) (-9999001) (-9999002) 0, if cd_give (pG P) r o = 0 then pPush P (giveG (pG P) r o) else P)
def aTake (P : PT) (r : Int) : Int × PT := (tv (cd_take (pG P) r) (whyF (pG P) r) (-9999001) 0 0, if cd_take (pG P) r = 0 then pPush P (takeM (pG P) r) else P)
def aDeal (P : PT) (s : Int) : Int × PT := (tv (cd_01 s) (gapF (dealG (pG P) s)) (-9999001) 0 0, if cd_01 s = 0 then pPush P (dealG (pG P) s) else P)
noncomputable def aDivide (P : PT) : Int × PT := (tv (cd_dv (fewF (pG P))) (fewF (pG P)) (-9999003) 0 0, if cd_dv (fewF (pG P)) = 0 then pPush P (dealG (lsT (pG P) (wyF (pG P)) (fewF (pG P)).toNat) 0) else P)
def aBreak (P : PT) (j : Int) : Int × PT := (tv (cd_breakAt (pG P) j) (pG P 1) (-9999001) 0 0, if cd_breakAt (pG P) j = 0 then pPush P (brkG (pG P) j) else P)
def aTurn (P : PT) : Int × PT := (pG P 0, pPush P (revF (pG P)))
def aChange (P : PT) (i j : Int) : Int × PT := (tv (cd_exchange (pG P) i j) (gapF (swapG (pG P) i j)) (-9999001) 0 0, if cd_exchange (pG P) i j = 0 then pPush P (swapG (pG P) i j) else P)
def aLay (P : PT) (v : Int) : Int × PT := (tv (cd_01 v) (pG P 4) (-9999002) 0 0, if cd_01 v = 0 then pPush P (setG (pG P) v) else P)
def aKeep (P : PT) (s : Int) : Int × PT := (tv (cd_01 s) (pG P 0) (-9999001) 0 0, if cd_01 s = 0 then pSave P s else P)
def aBack (P : PT) (s : Int) : Int × PT := (tv (cd_rest s (fl P s)) (pR P s.toNat 0) (-9999001) (-9999003) 0, if cd_rest s (fl P s) = 0 then pRest P s else P)
def aUndo (P : PT) : Int × PT := (tv (cd_undo (pK P)) (pK P - 1) (-9999003) 0 0, if cd_undo (pK P) = 0 then pUndo P else P)
noncomputable def acF (P : PT) (x : Int) : Int × PT :=
  if x % 16 ≤ 1 then aCome P (if x / 16 % 4 < 3 then x / 16 % 4 % 2 else x / 16 / 4 % 4) (1 + x / 16 / 16 % 9)
  else if x % 16 ≤ 5 then aCut P (1 + x / 16 % 15) (if 0 < x / 16 / 16 % 4 then 1 else 0)
  else if x % 16 ≤ 7 then aGive P (x / 16 % runsF (pG P)) (x / 16 / 16 % 3 - 1)
  else if x % 16 ≤ 9 then aTake P (x / 16 % runsF (pG P))
  else if x % 16 = 10 then (if x / 16 % 2 = 0 then aDeal P (x / 16 / 2 % 2) else aDivide P)
  else if x % 16 = 11 then (if x / 16 % 2 = 0 then aBreak P (x / 16 / 2 % pG P 0) else aTurn P)
  else if x % 16 = 12 then aChange P (x / 16 % pG P 0) (x / 16 / 16 % pG P 0)
  else if x % 16 = 13 then aLay P (x / 16 % 2)
  else if x % 16 = 14 then (if x / 16 % 2 = 0 then aKeep P (x / 16 / 2 % 2) else aBack P (x / 16 / 2 % 2))
  else if pG P 0 < 5 then (-1, P) else aUndo P
theorem runs_pos {g : Int → Int} (h : 1 ≤ g 0) : 1 ≤ runsF g := by
  unfold runsF
  rw [if_neg (by omega)]
  omega
theorem md_in (a : Int) {b : Int} (h : 1 ≤ b) : 0 ≤ a % b ∧ a % b < b := ⟨Int.emod_nonneg _ (by omega), Int.emod_lt_of_pos _ (by omega)⟩
theorem ne1 {c : Int} (h : c = 1) : ¬ c = 0 := by omega
theorem ne2 {c : Int} (h : c = 2) : ¬ c = 0 := by omega
theorem ne3 {c : Int} (h : c = 3) : ¬ c = 0 := by omega
theorem pic_in {P : PT} (W : WF0 P) (C : CH 4 P) : (4 ≤ pG P 0 ∧ pG P 0 ≤ 16) ∧ (1 ≤ runsF (pG P) ∧ runsF (pG P) ≤ 17) := ⟨⟨C.1, W.1.1.2⟩, runs_pos (by have := C.1; omega), (runsF_in (pG P)).2⟩
set_option maxHeartbeats 1000000 in
theorem c_thrown {Y : gY} {l : Launch} {S : SS} (a : Int) (ha : rI a) (hn : ¬ a = -9999001 ∧ ¬ a = -9999002 ∧ ¬ a = -9999003) : gN Y l mL_thrown 0 S [.int (iI a)] (fun v S' => v = some (.int (iI 0)) ∧ S' = S) := by
  refine gN_of (by decide) (Nat.le_of_ble_eq_true rfl) ?_
  intro X hXl B E
  show gW Y (xK X 0) S 0 [(0, .int (iI a))] []
  refine g_iload_n (q := 1) B dL_thrown_0 rfl 0 rfl ?_
  refine g_ldc (z := -9999001) (q := 3) B dL_thrown_1 rfl w573 (by decide) ?_
  refine g_icmp_eq (t := 18) (q := 6) B dL_thrown_3 (by decide) rfl ha ⟨by omega, by omega⟩ (fun cq3 => absurd cq3 (by omega)) (fun cq3 => ?_)
  refine g_iload_n (q := 7) B dL_thrown_6 rfl 0 rfl ?_
  refine g_ldc (z := -9999002) (q := 9) B dL_thrown_7 rfl w279 (by decide) ?_
  refine g_icmp_eq (t := 18) (q := 12) B dL_thrown_9 (by decide) rfl ha ⟨by omega, by omega⟩ (fun cq9 => absurd cq9 (by omega)) (fun cq9 => ?_)
  refine g_iload_n (q := 13) B dL_thrown_12 rfl 0 rfl ?_
  refine g_ldc (z := -9999003) (q := 15) B dL_thrown_13 rfl w280 (by decide) ?_
  refine g_icmp_ne (t := 22) (q := 18) B dL_thrown_15 (by decide) rfl ha ⟨by omega, by omega⟩ (fun cq15 => ?_) (fun cq15 => absurd cq15 (by omega))
  refine g_iconst (q := 23) B dL_thrown_22 rfl ?_
  exact gn_zret B E (Nat.le_refl _) dL_thrown_23 rfl (by decide) ⟨rfl, rfl⟩
set_option maxHeartbeats 8000000 in
theorem c_act {Y : gY} {l : Launch} {S : SS} {P : PT} (hst : l.stackTraces = false) (A0 : PK P S) (W : WF0 P) (C : CH 4 P) (x : Int) (hx0 : 0 ≤ x ∧ x < 2147483648) : gN Y l mL_act 3 S [.ref (yA Y 72), .int (iI x)] (qP (oI (acF P x).1) (acF P x).2 S) := by
  refine gN_of (by decide) (Nat.le_of_ble_eq_true rfl) ?_
  intro X hXl B E
  subst hXl
  have T0 := kp_r S
  have hb := pic_in W C
  have m1 := md_in (x / 16) hb.2.1
  have m2 := md_in (x / 16 / 2) (show 1 ≤ pG P 0 by omega)
  have m3 := md_in (x / 16) (show 1 ≤ pG P 0 by omega)
  have m4 := md_in (x / 16 / 16) (show 1 ≤ pG P 0 by omega)
  show gW Y (xK X 0) S 0 [(0, .ref (yA Y 72)), (1, .int (iI x))] []
  refine g_iload_n (q := 1) B dL_act_0 rfl 1 rfl ?_
  refine g_bipush (q := 3) B dL_act_1 rfl (by decide) ?_
  refine g_idiv (q := 4) B dL_act_3 rfl (by omega) (by omega) (by omega) (by omega) ?_
  refine g_istore_n (q := 5) B dL_act_4 rfl (by decide) (L' := [(2, .int (iI (x / 16))), (0, .ref (yA Y 72)), (1, .int (iI x))]) rfl ?_
  refine g_aload_n (q := 6) B dL_act_5 rfl 1 rfl ?_
  refine g_iconst (q := 7) B dL_act_6 rfl ?_
  refine g_iconst (q := 8) B dL_act_7 rfl ?_
  refine g_iconst (q := 9) B dL_act_8 rfl ?_
  refine g_iconst (q := 10) B dL_act_9 rfl ?_
  refine g_callN (q := 13) (m1 := 1) (c2 := 1) (As := [.ref (yA Y 72), .int (iI 2), .int (iI 0), .int (iI 0), .int (iI 0)]) (st := []) B dL_act_10 rfl (k_about (Y := Y) (S := S) hst A0 W 0 ⟨by omega, by omega⟩ 0 0 (x := pG P 0) (hx := rfl)) eL_call w179 (by decide) rfl rfl (Nat.le_of_ble_eq_true rfl) (by omega) (Nat.le_trans (show 1 ≤ 3 by omega) E.2.1) (Nat.le_trans (show 6 * (1) ≤ 6 * 3 by omega) E.2.2) (fun v S1 hS1 => ?_)
  obtain ⟨rfl, A1, K1⟩ := hS1
  have T1 := kp_t T0 K1
  have B2 := gB_K (c := 1) B (Nat.le_trans (show 1 ≤ 3 by omega) E.2.1) (Nat.le_trans (show 6 * (1) ≤ 6 * 3 by omega) E.2.2)
  show gW Y (xK X (1)) S1 13 [(2, .int (iI (x / 16))), (0, .ref (yA Y 72)), (1, .int (iI x))] [.int (iI (pG P 0))]
  refine g_istore_n (q := 14) B2 dL_act_13 rfl (by decide) (L' := [(3, .int (iI (pG P 0))), (2, .int (iI (x / 16))), (0, .ref (yA Y 72)), (1, .int (iI x))]) rfl ?_
  refine g_iload_n (q := 15) B2 dL_act_14 rfl 1 rfl ?_
  refine g_aload_n (q := 16) B2 dL_act_15 rfl 2 rfl ?_
  refine g_iconst (q := 17) B2 dL_act_16 rfl ?_
  refine g_iconst (q := 18) B2 dL_act_17 rfl ?_
  refine g_iconst (q := 19) B2 dL_act_18 rfl ?_
  refine g_iconst (q := 20) B2 dL_act_19 rfl ?_
  refine g_callN (q := 23) (m1 := 1) (c2 := 2) (As := [.ref (yA Y 72), .int (iI 2), .int (iI 3), .int (iI 0), .int (iI 0)]) (st := [.int (iI (x / 16))]) B2 dL_act_20 rfl (k_about (Y := Y) (S := S1) hst A1 W 3 ⟨by omega, by omega⟩ 0 0 (x := runsF (pG P)) (hx := rfl)) eL_call w179 (by decide) rfl rfl (Nat.le_of_ble_eq_true rfl) (by omega) (Nat.le_trans (show 2 ≤ 3 by omega) E.2.1) (Nat.le_trans (show 6 * (2) ≤ 6 * 3 by omega) E.2.2) (fun v S3 hS3 => ?_)
  obtain ⟨rfl, A3, K3⟩ := hS3
  have T3 := kp_t T1 K3
  have B4 := gB_K (c := 2) B2 (Nat.le_trans (show 2 ≤ 3 by omega) E.2.1) (Nat.le_trans (show 6 * (2) ≤ 6 * 3 by omega) E.2.2)
  show gW Y (xK X (2)) S3 23 [(3, .int (iI (pG P 0))), (2, .int (iI (x / 16))), (0, .ref (yA Y 72)), (1, .int (iI x))] [.int (iI (runsF (pG P))), .int (iI (x / 16))]
  refine g_irem (q := 24) B4 dL_act_23 rfl (by omega) (by omega) (by omega) (by omega) ?_
  refine g_istore (q := 26) B4 dL_act_24 rfl (by decide) (L' := [(4, .int (iI ((x / 16) % (runsF (pG P))))), (3, .int (iI (pG P 0))), (2, .int (iI (x / 16))), (0, .ref (yA Y 72)), (1, .int (iI x))]) rfl ?_
  refine g_iload_n (q := 27) B4 dL_act_26 rfl 4 rfl ?_
  refine g_bipush (q := 29) B4 dL_act_27 rfl (by decide) ?_
  refine g_irem (q := 30) B4 dL_act_29 rfl (by omega) (by omega) (by omega) (by omega) ?_
  by_cases h0 : x % 16 = 0
  · refine g_tsIn (q := 104) B4 0 dL_act_30 h0 ⟨by decide, by decide, by decide, by decide⟩ rfl (by decide) ?_
    refine g_aload_n (q := 105) B4 dL_act_104 rfl 3 rfl ?_
    refine g_bipush (q := 107) B4 dL_act_105 rfl (by decide) ?_
    refine g_iload_n (q := 108) B4 dL_act_107 rfl 2 rfl ?_
    refine g_iconst (q := 109) B4 dL_act_108 rfl ?_
    refine g_irem (q := 110) B4 dL_act_109 rfl (by omega) (by omega) (by omega) (by omega) ?_
    refine g_iconst (q := 111) B4 dL_act_110 rfl ?_
    refine g_icmp_ge (t := 122) (q := 114) B4 dL_act_111 (by decide) rfl ⟨by omega, by omega⟩ ⟨by omega, by omega⟩ (fun cq111 => ?_) (fun cq111 => ?_)
    · refine g_iload_n (q := 123) B4 dL_act_122 rfl 2 rfl ?_
      refine g_iconst (q := 124) B4 dL_act_123 rfl ?_
      refine g_idiv (q := 125) B4 dL_act_124 rfl (by omega) (by omega) (by omega) (by omega) ?_
      refine g_iconst (q := 126) B4 dL_act_125 rfl ?_
      refine g_irem (q := 127) B4 dL_act_126 rfl (by omega) (by omega) (by omega) (by omega) ?_
      refine g_iconst (q := 128) B4 dL_act_127 rfl ?_
      refine g_iload_n (q := 129) B4 dL_act_128 rfl 2 rfl ?_
      refine g_bipush (q := 131) B4 dL_act_129 rfl (by decide) ?_
      refine g_idiv (q := 132) B4 dL_act_131 rfl (by omega) (by omega) (by omega) (by omega) ?_
      refine g_bipush (q := 134) B4 dL_act_132 rfl (by decide) ?_
      refine g_irem (q := 135) B4 dL_act_134 rfl (by omega) (by omega) (by omega) (by omega) ?_
      refine g_iadd (q := 136) B4 dL_act_135 rfl ?_
      refine g_iconst (q := 137) B4 dL_act_136 rfl ?_
      refine g_callN (q := 140) (m1 := 1) (c2 := 3) (As := [.ref (yA Y 72), .int (iI 7), .int (iI (((x / 16) / 4) % 4)), .int (iI (1 + (((x / 16) / 16) % 9))), .int (iI 0)]) (st := []) B4 dL_act_137 rfl (k_jewel (Y := Y) (S := S3) hst A3 W (((x / 16) / 4) % 4) ⟨by omega, by omega⟩ (1 + (((x / 16) / 16) % 9)) ⟨by omega, by omega⟩ 0 (x := (aCome P (((x / 16) / 4) % 4) (1 + (((x / 16) / 16) % 9))).1) (hx := rfl) (P' := (aCome P (((x / 16) / 4) % 4) (1 + (((x / 16) / 16) % 9))).2) (hP := rfl)) eL_call w179 (by decide) rfl rfl (Nat.le_of_ble_eq_true rfl) (by omega) (Nat.le_trans (show 3 ≤ 3 by omega) E.2.1) (Nat.le_trans (show 6 * (3) ≤ 6 * 3 by omega) E.2.2) (fun v S5 hS5 => ?_)
      obtain ⟨rfl, A5, K5⟩ := hS5
      have T5 := kp_t T3 K5
      have B6 := gB_K (c := 3) B4 (Nat.le_trans (show 3 ≤ 3 by omega) E.2.1) (Nat.le_trans (show 6 * (3) ≤ 6 * 3 by omega) E.2.2)
      show gW Y (xK X (3)) S5 140 [(4, .int (iI ((x / 16) % (runsF (pG P))))), (3, .int (iI (pG P 0))), (2, .int (iI (x / 16))), (0, .ref (yA Y 72)), (1, .int (iI x))] [.int (iI ((aCome P (((x / 16) / 4) % 4) (1 + (((x / 16) / 16) % 9))).1))]
      have e9 : acF P x = (aCome P (((x / 16) / 4) % 4) (1 + (((x / 16) / 16) % 9))) := by
        unfold acF
        rw [if_pos (by omega)]
        rw [if_neg (by omega)]
      exact gn_iret B6 E (by omega) dL_act_140 ⟨by rw [e9]; exact congrArg (fun z => some (Value.int z)) (oI_iI _).symm, by rw [e9]; exact A5, T5⟩
    · refine g_iload_n (q := 115) B4 dL_act_114 rfl 2 rfl ?_
      refine g_iconst (q := 116) B4 dL_act_115 rfl ?_
      refine g_irem (q := 117) B4 dL_act_116 rfl (by omega) (by omega) (by omega) (by omega) ?_
      refine g_iconst (q := 118) B4 dL_act_117 rfl ?_
      refine g_irem (q := 119) B4 dL_act_118 rfl (by omega) (by omega) (by omega) (by omega) ?_
      refine g_goto (q := 127) B4 dL_act_119 (by decide) ?_
      refine g_iconst (q := 128) B4 dL_act_127 rfl ?_
      refine g_iload_n (q := 129) B4 dL_act_128 rfl 2 rfl ?_
      refine g_bipush (q := 131) B4 dL_act_129 rfl (by decide) ?_
      refine g_idiv (q := 132) B4 dL_act_131 rfl (by omega) (by omega) (by omega) (by omega) ?_
      refine g_bipush (q := 134) B4 dL_act_132 rfl (by decide) ?_
      refine g_irem (q := 135) B4 dL_act_134 rfl (by omega) (by omega) (by omega) (by omega) ?_
      refine g_iadd (q := 136) B4 dL_act_135 rfl ?_
      refine g_iconst (q := 137) B4 dL_act_136 rfl ?_
      refine g_callN (q := 140) (m1 := 1) (c2 := 3) (As := [.ref (yA Y 72), .int (iI 7), .int (iI (((x / 16) % 4) % 2)), .int (iI (1 + (((x / 16) / 16) % 9))), .int (iI 0)]) (st := []) B4 dL_act_137 rfl (k_jewel (Y := Y) (S := S3) hst A3 W (((x / 16) % 4) % 2) ⟨by omega, by omega⟩ (1 + (((x / 16) / 16) % 9)) ⟨by omega, by omega⟩ 0 (x := (aCome P (((x / 16) % 4) % 2) (1 + (((x / 16) / 16) % 9))).1) (hx := rfl) (P' := (aCome P (((x / 16) % 4) % 2) (1 + (((x / 16) / 16) % 9))).2) (hP := rfl)) eL_call w179 (by decide) rfl rfl (Nat.le_of_ble_eq_true rfl) (by omega) (Nat.le_trans (show 3 ≤ 3 by omega) E.2.1) (Nat.le_trans (show 6 * (3) ≤ 6 * 3 by omega) E.2.2) (fun v S7 hS7 => ?_)
      obtain ⟨rfl, A7, K7⟩ := hS7
      have T7 := kp_t T3 K7
      have B8 := gB_K (c := 3) B4 (Nat.le_trans (show 3 ≤ 3 by omega) E.2.1) (Nat.le_trans (show 6 * (3) ≤ 6 * 3 by omega) E.2.2)
      show gW Y (xK X (3)) S7 140 [(4, .int (iI ((x / 16) % (runsF (pG P))))), (3, .int (iI (pG P 0))), (2, .int (iI (x / 16))), (0, .ref (yA Y 72)), (1, .int (iI x))] [.int (iI ((aCome P (((x / 16) % 4) % 2) (1 + (((x / 16) / 16) % 9))).1))]
      have e9 : acF P x = (aCome P (((x / 16) % 4) % 2) (1 + (((x / 16) / 16) % 9))) := by
        unfold acF
        rw [if_pos (by omega)]
        rw [if_pos (by omega)]
      exact gn_iret B8 E (by omega) dL_act_140 ⟨by rw [e9]; exact congrArg (fun z => some (Value.int z)) (oI_iI _).symm, by rw [e9]; exact A7, T7⟩
  by_cases h1 : x % 16 = 1
  · refine g_tsIn (q := 104) B4 1 dL_act_30 h1 ⟨by decide, by decide, by decide, by decide⟩ rfl (by decide) ?_
    refine g_aload_n (q := 105) B4 dL_act_104 rfl 3 rfl ?_
    refine g_bipush (q := 107) B4 dL_act_105 rfl (by decide) ?_
    refine g_iload_n (q := 108) B4 dL_act_107 rfl 2 rfl ?_
    refine g_iconst (q := 109) B4 dL_act_108 rfl ?_
    refine g_irem (q := 110) B4 dL_act_109 rfl (by omega) (by omega) (by omega) (by omega) ?_
    refine g_iconst (q := 111) B4 dL_act_110 rfl ?_
    refine g_icmp_ge (t := 122) (q := 114) B4 dL_act_111 (by decide) rfl ⟨by omega, by omega⟩ ⟨by omega, by omega⟩ (fun cq111 => ?_) (fun cq111 => ?_)
    · refine g_iload_n (q := 123) B4 dL_act_122 rfl 2 rfl ?_
      refine g_iconst (q := 124) B4 dL_act_123 rfl ?_
      refine g_idiv (q := 125) B4 dL_act_124 rfl (by omega) (by omega) (by omega) (by omega) ?_
      refine g_iconst (q := 126) B4 dL_act_125 rfl ?_
      refine g_irem (q := 127) B4 dL_act_126 rfl (by omega) (by omega) (by omega) (by omega) ?_
      refine g_iconst (q := 128) B4 dL_act_127 rfl ?_
      refine g_iload_n (q := 129) B4 dL_act_128 rfl 2 rfl ?_
      refine g_bipush (q := 131) B4 dL_act_129 rfl (by decide) ?_
      refine g_idiv (q := 132) B4 dL_act_131 rfl (by omega) (by omega) (by omega) (by omega) ?_
      refine g_bipush (q := 134) B4 dL_act_132 rfl (by decide) ?_
      refine g_irem (q := 135) B4 dL_act_134 rfl (by omega) (by omega) (by omega) (by omega) ?_
      refine g_iadd (q := 136) B4 dL_act_135 rfl ?_
      refine g_iconst (q := 137) B4 dL_act_136 rfl ?_
      refine g_callN (q := 140) (m1 := 1) (c2 := 3) (As := [.ref (yA Y 72), .int (iI 7), .int (iI (((x / 16) / 4) % 4)), .int (iI (1 + (((x / 16) / 16) % 9))), .int (iI 0)]) (st := []) B4 dL_act_137 rfl (k_jewel (Y := Y) (S := S3) hst A3 W (((x / 16) / 4) % 4) ⟨by omega, by omega⟩ (1 + (((x / 16) / 16) % 9)) ⟨by omega, by omega⟩ 0 (x := (aCome P (((x / 16) / 4) % 4) (1 + (((x / 16) / 16) % 9))).1) (hx := rfl) (P' := (aCome P (((x / 16) / 4) % 4) (1 + (((x / 16) / 16) % 9))).2) (hP := rfl)) eL_call w179 (by decide) rfl rfl (Nat.le_of_ble_eq_true rfl) (by omega) (Nat.le_trans (show 3 ≤ 3 by omega) E.2.1) (Nat.le_trans (show 6 * (3) ≤ 6 * 3 by omega) E.2.2) (fun v S9 hS9 => ?_)
      obtain ⟨rfl, A9, K9⟩ := hS9
      have T9 := kp_t T3 K9
      have B10 := gB_K (c := 3) B4 (Nat.le_trans (show 3 ≤ 3 by omega) E.2.1) (Nat.le_trans (show 6 * (3) ≤ 6 * 3 by omega) E.2.2)
      show gW Y (xK X (3)) S9 140 [(4, .int (iI ((x / 16) % (runsF (pG P))))), (3, .int (iI (pG P 0))), (2, .int (iI (x / 16))), (0, .ref (yA Y 72)), (1, .int (iI x))] [.int (iI ((aCome P (((x / 16) / 4) % 4) (1 + (((x / 16) / 16) % 9))).1))]
      have e9 : acF P x = (aCome P (((x / 16) / 4) % 4) (1 + (((x / 16) / 16) % 9))) := by
        unfold acF
        rw [if_pos (by omega)]
        rw [if_neg (by omega)]
      exact gn_iret B10 E (by omega) dL_act_140 ⟨by rw [e9]; exact congrArg (fun z => some (Value.int z)) (oI_iI _).symm, by rw [e9]; exact A9, T9⟩
    · refine g_iload_n (q := 115) B4 dL_act_114 rfl 2 rfl ?_
      refine g_iconst (q := 116) B4 dL_act_115 rfl ?_
      refine g_irem (q := 117) B4 dL_act_116 rfl (by omega) (by omega) (by omega) (by omega) ?_
      refine g_iconst (q := 118) B4 dL_act_117 rfl ?_
      refine g_irem (q := 119) B4 dL_act_118 rfl (by omega) (by omega) (by omega) (by omega) ?_
      refine g_goto (q := 127) B4 dL_act_119 (by decide) ?_
      refine g_iconst (q := 128) B4 dL_act_127 rfl ?_
      refine g_iload_n (q := 129) B4 dL_act_128 rfl 2 rfl ?_
      refine g_bipush (q := 131) B4 dL_act_129 rfl (by decide) ?_
      refine g_idiv (q := 132) B4 dL_act_131 rfl (by omega) (by omega) (by omega) (by omega) ?_
      refine g_bipush (q := 134) B4 dL_act_132 rfl (by decide) ?_
      refine g_irem (q := 135) B4 dL_act_134 rfl (by omega) (by omega) (by omega) (by omega) ?_
      refine g_iadd (q := 136) B4 dL_act_135 rfl ?_
      refine g_iconst (q := 137) B4 dL_act_136 rfl ?_
      refine g_callN (q := 140) (m1 := 1) (c2 := 3) (As := [.ref (yA Y 72), .int (iI 7), .int (iI (((x / 16) % 4) % 2)), .int (iI (1 + (((x / 16) / 16) % 9))), .int (iI 0)]) (st := []) B4 dL_act_137 rfl (k_jewel (Y := Y) (S := S3) hst A3 W (((x / 16) % 4) % 2) ⟨by omega, by omega⟩ (1 + (((x / 16) / 16) % 9)) ⟨by omega, by omega⟩ 0 (x := (aCome P (((x / 16) % 4) % 2) (1 + (((x / 16) / 16) % 9))).1) (hx := rfl) (P' := (aCome P (((x / 16) % 4) % 2) (1 + (((x / 16) / 16) % 9))).2) (hP := rfl)) eL_call w179 (by decide) rfl rfl (Nat.le_of_ble_eq_true rfl) (by omega) (Nat.le_trans (show 3 ≤ 3 by omega) E.2.1) (Nat.le_trans (show 6 * (3) ≤ 6 * 3 by omega) E.2.2) (fun v S11 hS11 => ?_)
      obtain ⟨rfl, A11, K11⟩ := hS11
      have T11 := kp_t T3 K11
      have B12 := gB_K (c := 3) B4 (Nat.le_trans (show 3 ≤ 3 by omega) E.2.1) (Nat.le_trans (show 6 * (3) ≤ 6 * 3 by omega) E.2.2)
      show gW Y (xK X (3)) S11 140 [(4, .int (iI ((x / 16) % (runsF (pG P))))), (3, .int (iI (pG P 0))), (2, .int (iI (x / 16))), (0, .ref (yA Y 72)), (1, .int (iI x))] [.int (iI ((aCome P (((x / 16) % 4) % 2) (1 + (((x / 16) / 16) % 9))).1))]
      have e9 : acF P x = (aCome P (((x / 16) % 4) % 2) (1 + (((x / 16) / 16) % 9))) := by
        unfold acF
        rw [if_pos (by omega)]
        rw [if_pos (by omega)]
      exact gn_iret B12 E (by omega) dL_act_140 ⟨by rw [e9]; exact congrArg (fun z => some (Value.int z)) (oI_iI _).symm, by rw [e9]; exact A11, T11⟩
  by_cases h2 : x % 16 = 2
  · refine g_tsIn (q := 141) B4 2 dL_act_30 h2 ⟨by decide, by decide, by decide, by decide⟩ rfl (by decide) ?_
    refine g_aload_n (q := 142) B4 dL_act_141 rfl 3 rfl ?_
    refine g_iconst (q := 143) B4 dL_act_142 rfl ?_
    refine g_iload_n (q := 144) B4 dL_act_143 rfl 2 rfl ?_
    refine g_bipush (q := 146) B4 dL_act_144 rfl (by decide) ?_
    refine g_irem (q := 147) B4 dL_act_146 rfl (by omega) (by omega) (by omega) (by omega) ?_
    refine g_iadd (q := 148) B4 dL_act_147 rfl ?_
    refine g_iload_n (q := 149) B4 dL_act_148 rfl 2 rfl ?_
    refine g_bipush (q := 151) B4 dL_act_149 rfl (by decide) ?_
    refine g_idiv (q := 152) B4 dL_act_151 rfl (by omega) (by omega) (by omega) (by omega) ?_
    refine g_iconst (q := 153) B4 dL_act_152 rfl ?_
    refine g_irem (q := 154) B4 dL_act_153 rfl (by omega) (by omega) (by omega) (by omega) ?_
    refine g_if_le (t := 161) (q := 157) B4 dL_act_154 (by decide) rfl ⟨by omega, by omega⟩ (fun cq154 => ?_) (fun cq154 => ?_)
    · refine g_iconst (q := 162) B4 dL_act_161 rfl ?_
      refine g_callW (q := 165) (c2 := 3) (As := [.ref (yA Y 72), .int (iI (1 + ((x / 16) % 15))), .int (iI 0)]) (st := []) B4 dL_act_162 rfl (k_cut (Y := Y) (S := S3) hst A3 W 0 (by decide) (1 + ((x / 16) % 15)) ⟨by omega, by omega⟩  (x := (aCut P (1 + ((x / 16) % 15)) 0).1) (hx := rfl) (P' := (aCut P (1 + ((x / 16) % 15)) 0).2) (hP := rfl)) eL_cuts w844 (by decide) rfl rfl (Nat.le_of_ble_eq_true rfl) (by omega) (Nat.le_trans (show 3 ≤ 3 by omega) E.2.1) (Nat.le_trans (show 6 * (3) ≤ 6 * 3 by omega) E.2.2) (fun v S13 hS13 => ?_)
      obtain ⟨rfl, A13, K13⟩ := hS13
      have T13 := kp_t T3 K13
      have B14 := gB_K (c := 3) B4 (Nat.le_trans (show 3 ≤ 3 by omega) E.2.1) (Nat.le_trans (show 6 * (3) ≤ 6 * 3 by omega) E.2.2)
      show gW Y (xK X (3)) S13 165 [(4, .int (iI ((x / 16) % (runsF (pG P))))), (3, .int (iI (pG P 0))), (2, .int (iI (x / 16))), (0, .ref (yA Y 72)), (1, .int (iI x))] [.int (iI ((aCut P (1 + ((x / 16) % 15)) 0).1))]
      have e9 : acF P x = (aCut P (1 + ((x / 16) % 15)) 0) := by
        unfold acF
        rw [if_neg (by omega), if_pos (by omega)]
        rw [if_neg (by omega)]
      exact gn_iret B14 E (by omega) dL_act_165 ⟨by rw [e9]; exact congrArg (fun z => some (Value.int z)) (oI_iI _).symm, by rw [e9]; exact A13, T13⟩
    · refine g_iconst (q := 158) B4 dL_act_157 rfl ?_
      refine g_goto (q := 162) B4 dL_act_158 (by decide) ?_
      refine g_callW (q := 165) (c2 := 3) (As := [.ref (yA Y 72), .int (iI (1 + ((x / 16) % 15))), .int (iI 1)]) (st := []) B4 dL_act_162 rfl (k_cut (Y := Y) (S := S3) hst A3 W 1 (by decide) (1 + ((x / 16) % 15)) ⟨by omega, by omega⟩  (x := (aCut P (1 + ((x / 16) % 15)) 1).1) (hx := rfl) (P' := (aCut P (1 + ((x / 16) % 15)) 1).2) (hP := rfl)) eL_cuts w844 (by decide) rfl rfl (Nat.le_of_ble_eq_true rfl) (by omega) (Nat.le_trans (show 3 ≤ 3 by omega) E.2.1) (Nat.le_trans (show 6 * (3) ≤ 6 * 3 by omega) E.2.2) (fun v S15 hS15 => ?_)
      obtain ⟨rfl, A15, K15⟩ := hS15
      have T15 := kp_t T3 K15
      have B16 := gB_K (c := 3) B4 (Nat.le_trans (show 3 ≤ 3 by omega) E.2.1) (Nat.le_trans (show 6 * (3) ≤ 6 * 3 by omega) E.2.2)
      show gW Y (xK X (3)) S15 165 [(4, .int (iI ((x / 16) % (runsF (pG P))))), (3, .int (iI (pG P 0))), (2, .int (iI (x / 16))), (0, .ref (yA Y 72)), (1, .int (iI x))] [.int (iI ((aCut P (1 + ((x / 16) % 15)) 1).1))]
      have e9 : acF P x = (aCut P (1 + ((x / 16) % 15)) 1) := by
        unfold acF
        rw [if_neg (by omega), if_pos (by omega)]
        rw [if_pos (by omega)]
      exact gn_iret B16 E (by omega) dL_act_165 ⟨by rw [e9]; exact congrArg (fun z => some (Value.int z)) (oI_iI _).symm, by rw [e9]; exact A15, T15⟩
  by_cases h3 : x % 16 = 3
  · refine g_tsIn (q := 141) B4 3 dL_act_30 h3 ⟨by decide, by decide, by decide, by decide⟩ rfl (by decide) ?_
    refine g_aload_n (q := 142) B4 dL_act_141 rfl 3 rfl ?_
    refine g_iconst (q := 143) B4 dL_act_142 rfl ?_
    refine g_iload_n (q := 144) B4 dL_act_143 rfl 2 rfl ?_
    refine g_bipush (q := 146) B4 dL_act_144 rfl (by decide) ?_
    refine g_irem (q := 147) B4 dL_act_146 rfl (by omega) (by omega) (by omega) (by omega) ?_
    refine g_iadd (q := 148) B4 dL_act_147 rfl ?_
    refine g_iload_n (q := 149) B4 dL_act_148 rfl 2 rfl ?_
    refine g_bipush (q := 151) B4 dL_act_149 rfl (by decide) ?_
    refine g_idiv (q := 152) B4 dL_act_151 rfl (by omega) (by omega) (by omega) (by omega) ?_
    refine g_iconst (q := 153) B4 dL_act_152 rfl ?_
    refine g_irem (q := 154) B4 dL_act_153 rfl (by omega) (by omega) (by omega) (by omega) ?_
    refine g_if_le (t := 161) (q := 157) B4 dL_act_154 (by decide) rfl ⟨by omega, by omega⟩ (fun cq154 => ?_) (fun cq154 => ?_)
    · refine g_iconst (q := 162) B4 dL_act_161 rfl ?_
      refine g_callW (q := 165) (c2 := 3) (As := [.ref (yA Y 72), .int (iI (1 + ((x / 16) % 15))), .int (iI 0)]) (st := []) B4 dL_act_162 rfl (k_cut (Y := Y) (S := S3) hst A3 W 0 (by decide) (1 + ((x / 16) % 15)) ⟨by omega, by omega⟩  (x := (aCut P (1 + ((x / 16) % 15)) 0).1) (hx := rfl) (P' := (aCut P (1 + ((x / 16) % 15)) 0).2) (hP := rfl)) eL_cuts w844 (by decide) rfl rfl (Nat.le_of_ble_eq_true rfl) (by omega) (Nat.le_trans (show 3 ≤ 3 by omega) E.2.1) (Nat.le_trans (show 6 * (3) ≤ 6 * 3 by omega) E.2.2) (fun v S17 hS17 => ?_)
      obtain ⟨rfl, A17, K17⟩ := hS17
      have T17 := kp_t T3 K17
      have B18 := gB_K (c := 3) B4 (Nat.le_trans (show 3 ≤ 3 by omega) E.2.1) (Nat.le_trans (show 6 * (3) ≤ 6 * 3 by omega) E.2.2)
      show gW Y (xK X (3)) S17 165 [(4, .int (iI ((x / 16) % (runsF (pG P))))), (3, .int (iI (pG P 0))), (2, .int (iI (x / 16))), (0, .ref (yA Y 72)), (1, .int (iI x))] [.int (iI ((aCut P (1 + ((x / 16) % 15)) 0).1))]
      have e9 : acF P x = (aCut P (1 + ((x / 16) % 15)) 0) := by
        unfold acF
        rw [if_neg (by omega), if_pos (by omega)]
        rw [if_neg (by omega)]
      exact gn_iret B18 E (by omega) dL_act_165 ⟨by rw [e9]; exact congrArg (fun z => some (Value.int z)) (oI_iI _).symm, by rw [e9]; exact A17, T17⟩
    · refine g_iconst (q := 158) B4 dL_act_157 rfl ?_
      refine g_goto (q := 162) B4 dL_act_158 (by decide) ?_
      refine g_callW (q := 165) (c2 := 3) (As := [.ref (yA Y 72), .int (iI (1 + ((x / 16) % 15))), .int (iI 1)]) (st := []) B4 dL_act_162 rfl (k_cut (Y := Y) (S := S3) hst A3 W 1 (by decide) (1 + ((x / 16) % 15)) ⟨by omega, by omega⟩  (x := (aCut P (1 + ((x / 16) % 15)) 1).1) (hx := rfl) (P' := (aCut P (1 + ((x / 16) % 15)) 1).2) (hP := rfl)) eL_cuts w844 (by decide) rfl rfl (Nat.le_of_ble_eq_true rfl) (by omega) (Nat.le_trans (show 3 ≤ 3 by omega) E.2.1) (Nat.le_trans (show 6 * (3) ≤ 6 * 3 by omega) E.2.2) (fun v S19 hS19 => ?_)
      obtain ⟨rfl, A19, K19⟩ := hS19
      have T19 := kp_t T3 K19
      have B20 := gB_K (c := 3) B4 (Nat.le_trans (show 3 ≤ 3 by omega) E.2.1) (Nat.le_trans (show 6 * (3) ≤ 6 * 3 by omega) E.2.2)
      show gW Y (xK X (3)) S19 165 [(4, .int (iI ((x / 16) % (runsF (pG P))))), (3, .int (iI (pG P 0))), (2, .int (iI (x / 16))), (0, .ref (yA Y 72)), (1, .int (iI x))] [.int (iI ((aCut P (1 + ((x / 16) % 15)) 1).1))]
      have e9 : acF P x = (aCut P (1 + ((x / 16) % 15)) 1) := by
        unfold acF
        rw [if_neg (by omega), if_pos (by omega)]
        rw [if_pos (by omega)]
      exact gn_iret B20 E (by omega) dL_act_165 ⟨by rw [e9]; exact congrArg (fun z => some (Value.int z)) (oI_iI _).symm, by rw [e9]; exact A19, T19⟩
  by_cases h4 : x % 16 = 4
  · refine g_tsIn (q := 141) B4 4 dL_act_30 h4 ⟨by decide, by decide, by decide, by decide⟩ rfl (by decide) ?_
    refine g_aload_n (q := 142) B4 dL_act_141 rfl 3 rfl ?_
    refine g_iconst (q := 143) B4 dL_act_142 rfl ?_
    refine g_iload_n (q := 144) B4 dL_act_143 rfl 2 rfl ?_
    refine g_bipush (q := 146) B4 dL_act_144 rfl (by decide) ?_
    refine g_irem (q := 147) B4 dL_act_146 rfl (by omega) (by omega) (by omega) (by omega) ?_
    refine g_iadd (q := 148) B4 dL_act_147 rfl ?_
    refine g_iload_n (q := 149) B4 dL_act_148 rfl 2 rfl ?_
    refine g_bipush (q := 151) B4 dL_act_149 rfl (by decide) ?_
    refine g_idiv (q := 152) B4 dL_act_151 rfl (by omega) (by omega) (by omega) (by omega) ?_
    refine g_iconst (q := 153) B4 dL_act_152 rfl ?_
    refine g_irem (q := 154) B4 dL_act_153 rfl (by omega) (by omega) (by omega) (by omega) ?_
    refine g_if_le (t := 161) (q := 157) B4 dL_act_154 (by decide) rfl ⟨by omega, by omega⟩ (fun cq154 => ?_) (fun cq154 => ?_)
    · refine g_iconst (q := 162) B4 dL_act_161 rfl ?_
      refine g_callW (q := 165) (c2 := 3) (As := [.ref (yA Y 72), .int (iI (1 + ((x / 16) % 15))), .int (iI 0)]) (st := []) B4 dL_act_162 rfl (k_cut (Y := Y) (S := S3) hst A3 W 0 (by decide) (1 + ((x / 16) % 15)) ⟨by omega, by omega⟩  (x := (aCut P (1 + ((x / 16) % 15)) 0).1) (hx := rfl) (P' := (aCut P (1 + ((x / 16) % 15)) 0).2) (hP := rfl)) eL_cuts w844 (by decide) rfl rfl (Nat.le_of_ble_eq_true rfl) (by omega) (Nat.le_trans (show 3 ≤ 3 by omega) E.2.1) (Nat.le_trans (show 6 * (3) ≤ 6 * 3 by omega) E.2.2) (fun v S21 hS21 => ?_)
      obtain ⟨rfl, A21, K21⟩ := hS21
      have T21 := kp_t T3 K21
      have B22 := gB_K (c := 3) B4 (Nat.le_trans (show 3 ≤ 3 by omega) E.2.1) (Nat.le_trans (show 6 * (3) ≤ 6 * 3 by omega) E.2.2)
      show gW Y (xK X (3)) S21 165 [(4, .int (iI ((x / 16) % (runsF (pG P))))), (3, .int (iI (pG P 0))), (2, .int (iI (x / 16))), (0, .ref (yA Y 72)), (1, .int (iI x))] [.int (iI ((aCut P (1 + ((x / 16) % 15)) 0).1))]
      have e9 : acF P x = (aCut P (1 + ((x / 16) % 15)) 0) := by
        unfold acF
        rw [if_neg (by omega), if_pos (by omega)]
        rw [if_neg (by omega)]
      exact gn_iret B22 E (by omega) dL_act_165 ⟨by rw [e9]; exact congrArg (fun z => some (Value.int z)) (oI_iI _).symm, by rw [e9]; exact A21, T21⟩
    · refine g_iconst (q := 158) B4 dL_act_157 rfl ?_
      refine g_goto (q := 162) B4 dL_act_158 (by decide) ?_
      refine g_callW (q := 165) (c2 := 3) (As := [.ref (yA Y 72), .int (iI (1 + ((x / 16) % 15))), .int (iI 1)]) (st := []) B4 dL_act_162 rfl (k_cut (Y := Y) (S := S3) hst A3 W 1 (by decide) (1 + ((x / 16) % 15)) ⟨by omega, by omega⟩  (x := (aCut P (1 + ((x / 16) % 15)) 1).1) (hx := rfl) (P' := (aCut P (1 + ((x / 16) % 15)) 1).2) (hP := rfl)) eL_cuts w844 (by decide) rfl rfl (Nat.le_of_ble_eq_true rfl) (by omega) (Nat.le_trans (show 3 ≤ 3 by omega) E.2.1) (Nat.le_trans (show 6 * (3) ≤ 6 * 3 by omega) E.2.2) (fun v S23 hS23 => ?_)
      obtain ⟨rfl, A23, K23⟩ := hS23
      have T23 := kp_t T3 K23
      have B24 := gB_K (c := 3) B4 (Nat.le_trans (show 3 ≤ 3 by omega) E.2.1) (Nat.le_trans (show 6 * (3) ≤ 6 * 3 by omega) E.2.2)
      show gW Y (xK X (3)) S23 165 [(4, .int (iI ((x / 16) % (runsF (pG P))))), (3, .int (iI (pG P 0))), (2, .int (iI (x / 16))), (0, .ref (yA Y 72)), (1, .int (iI x))] [.int (iI ((aCut P (1 + ((x / 16) % 15)) 1).1))]
      have e9 : acF P x = (aCut P (1 + ((x / 16) % 15)) 1) := by
        unfold acF
        rw [if_neg (by omega), if_pos (by omega)]
        rw [if_pos (by omega)]
      exact gn_iret B24 E (by omega) dL_act_165 ⟨by rw [e9]; exact congrArg (fun z => some (Value.int z)) (oI_iI _).symm, by rw [e9]; exact A23, T23⟩
  by_cases h5 : x % 16 = 5
  · refine g_tsIn (q := 141) B4 5 dL_act_30 h5 ⟨by decide, by decide, by decide, by decide⟩ rfl (by decide) ?_
    refine g_aload_n (q := 142) B4 dL_act_141 rfl 3 rfl ?_
    refine g_iconst (q := 143) B4 dL_act_142 rfl ?_
    refine g_iload_n (q := 144) B4 dL_act_143 rfl 2 rfl ?_
    refine g_bipush (q := 146) B4 dL_act_144 rfl (by decide) ?_
    refine g_irem (q := 147) B4 dL_act_146 rfl (by omega) (by omega) (by omega) (by omega) ?_
    refine g_iadd (q := 148) B4 dL_act_147 rfl ?_
    refine g_iload_n (q := 149) B4 dL_act_148 rfl 2 rfl ?_
    refine g_bipush (q := 151) B4 dL_act_149 rfl (by decide) ?_
    refine g_idiv (q := 152) B4 dL_act_151 rfl (by omega) (by omega) (by omega) (by omega) ?_
    refine g_iconst (q := 153) B4 dL_act_152 rfl ?_
    refine g_irem (q := 154) B4 dL_act_153 rfl (by omega) (by omega) (by omega) (by omega) ?_
    refine g_if_le (t := 161) (q := 157) B4 dL_act_154 (by decide) rfl ⟨by omega, by omega⟩ (fun cq154 => ?_) (fun cq154 => ?_)
    · refine g_iconst (q := 162) B4 dL_act_161 rfl ?_
      refine g_callW (q := 165) (c2 := 3) (As := [.ref (yA Y 72), .int (iI (1 + ((x / 16) % 15))), .int (iI 0)]) (st := []) B4 dL_act_162 rfl (k_cut (Y := Y) (S := S3) hst A3 W 0 (by decide) (1 + ((x / 16) % 15)) ⟨by omega, by omega⟩  (x := (aCut P (1 + ((x / 16) % 15)) 0).1) (hx := rfl) (P' := (aCut P (1 + ((x / 16) % 15)) 0).2) (hP := rfl)) eL_cuts w844 (by decide) rfl rfl (Nat.le_of_ble_eq_true rfl) (by omega) (Nat.le_trans (show 3 ≤ 3 by omega) E.2.1) (Nat.le_trans (show 6 * (3) ≤ 6 * 3 by omega) E.2.2) (fun v S25 hS25 => ?_)
      obtain ⟨rfl, A25, K25⟩ := hS25
      have T25 := kp_t T3 K25
      have B26 := gB_K (c := 3) B4 (Nat.le_trans (show 3 ≤ 3 by omega) E.2.1) (Nat.le_trans (show 6 * (3) ≤ 6 * 3 by omega) E.2.2)
      show gW Y (xK X (3)) S25 165 [(4, .int (iI ((x / 16) % (runsF (pG P))))), (3, .int (iI (pG P 0))), (2, .int (iI (x / 16))), (0, .ref (yA Y 72)), (1, .int (iI x))] [.int (iI ((aCut P (1 + ((x / 16) % 15)) 0).1))]
      have e9 : acF P x = (aCut P (1 + ((x / 16) % 15)) 0) := by
        unfold acF
        rw [if_neg (by omega), if_pos (by omega)]
        rw [if_neg (by omega)]
      exact gn_iret B26 E (by omega) dL_act_165 ⟨by rw [e9]; exact congrArg (fun z => some (Value.int z)) (oI_iI _).symm, by rw [e9]; exact A25, T25⟩
    · refine g_iconst (q := 158) B4 dL_act_157 rfl ?_
      refine g_goto (q := 162) B4 dL_act_158 (by decide) ?_
      refine g_callW (q := 165) (c2 := 3) (As := [.ref (yA Y 72), .int (iI (1 + ((x / 16) % 15))), .int (iI 1)]) (st := []) B4 dL_act_162 rfl (k_cut (Y := Y) (S := S3) hst A3 W 1 (by decide) (1 + ((x / 16) % 15)) ⟨by omega, by omega⟩  (x := (aCut P (1 + ((x / 16) % 15)) 1).1) (hx := rfl) (P' := (aCut P (1 + ((x / 16) % 15)) 1).2) (hP := rfl)) eL_cuts w844 (by decide) rfl rfl (Nat.le_of_ble_eq_true rfl) (by omega) (Nat.le_trans (show 3 ≤ 3 by omega) E.2.1) (Nat.le_trans (show 6 * (3) ≤ 6 * 3 by omega) E.2.2) (fun v S27 hS27 => ?_)
      obtain ⟨rfl, A27, K27⟩ := hS27
      have T27 := kp_t T3 K27
      have B28 := gB_K (c := 3) B4 (Nat.le_trans (show 3 ≤ 3 by omega) E.2.1) (Nat.le_trans (show 6 * (3) ≤ 6 * 3 by omega) E.2.2)
      show gW Y (xK X (3)) S27 165 [(4, .int (iI ((x / 16) % (runsF (pG P))))), (3, .int (iI (pG P 0))), (2, .int (iI (x / 16))), (0, .ref (yA Y 72)), (1, .int (iI x))] [.int (iI ((aCut P (1 + ((x / 16) % 15)) 1).1))]
      have e9 : acF P x = (aCut P (1 + ((x / 16) % 15)) 1) := by
        unfold acF
        rw [if_neg (by omega), if_pos (by omega)]
        rw [if_pos (by omega)]
      exact gn_iret B28 E (by omega) dL_act_165 ⟨by rw [e9]; exact congrArg (fun z => some (Value.int z)) (oI_iI _).symm, by rw [e9]; exact A27, T27⟩
  by_cases h6 : x % 16 = 6
  · refine g_tsIn (q := 166) B4 6 dL_act_30 h6 ⟨by decide, by decide, by decide, by decide⟩ rfl (by decide) ?_
    refine g_aload_n (q := 167) B4 dL_act_166 rfl 3 rfl ?_
    refine g_bipush (q := 169) B4 dL_act_167 rfl (by decide) ?_
    refine g_iload (q := 171) B4 dL_act_169 rfl 0 rfl ?_
    refine g_iload_n (q := 172) B4 dL_act_171 rfl 2 rfl ?_
    refine g_bipush (q := 174) B4 dL_act_172 rfl (by decide) ?_
    refine g_idiv (q := 175) B4 dL_act_174 rfl (by omega) (by omega) (by omega) (by omega) ?_
    refine g_iconst (q := 176) B4 dL_act_175 rfl ?_
    refine g_irem (q := 177) B4 dL_act_176 rfl (by omega) (by omega) (by omega) (by omega) ?_
    refine g_iconst (q := 178) B4 dL_act_177 rfl ?_
    refine g_isub (q := 179) B4 dL_act_178 rfl ?_
    refine g_iconst (q := 180) B4 dL_act_179 rfl ?_
    refine g_callN (q := 183) (m1 := 1) (c2 := 3) (As := [.ref (yA Y 72), .int (iI 10), .int (iI ((x / 16) % (runsF (pG P)))), .int (iI ((((x / 16) / 16) % 3) - 1)), .int (iI 0)]) (st := []) B4 dL_act_180 rfl (k_give (Y := Y) (S := S3) hst A3 W ((x / 16) % (runsF (pG P))) ⟨by omega, by omega⟩ ((((x / 16) / 16) % 3) - 1) ⟨by omega, by omega⟩ 0 (x := (aGive P ((x / 16) % (runsF (pG P))) ((((x / 16) / 16) % 3) - 1)).1) (hx := rfl) (P' := (aGive P ((x / 16) % (runsF (pG P))) ((((x / 16) / 16) % 3) - 1)).2) (hP := rfl)) eL_call w179 (by decide) rfl rfl (Nat.le_of_ble_eq_true rfl) (by omega) (Nat.le_trans (show 3 ≤ 3 by omega) E.2.1) (Nat.le_trans (show 6 * (3) ≤ 6 * 3 by omega) E.2.2) (fun v S29 hS29 => ?_)
    obtain ⟨rfl, A29, K29⟩ := hS29
    have T29 := kp_t T3 K29
    have B30 := gB_K (c := 3) B4 (Nat.le_trans (show 3 ≤ 3 by omega) E.2.1) (Nat.le_trans (show 6 * (3) ≤ 6 * 3 by omega) E.2.2)
    show gW Y (xK X (3)) S29 183 [(4, .int (iI ((x / 16) % (runsF (pG P))))), (3, .int (iI (pG P 0))), (2, .int (iI (x / 16))), (0, .ref (yA Y 72)), (1, .int (iI x))] [.int (iI ((aGive P ((x / 16) % (runsF (pG P))) ((((x / 16) / 16) % 3) - 1)).1))]
    have e9 : acF P x = (aGive P ((x / 16) % (runsF (pG P))) ((((x / 16) / 16) % 3) - 1)) := by
      unfold acF
      rw [if_neg (by omega), if_neg (by omega), if_pos (by omega)]
    exact gn_iret B30 E (by omega) dL_act_183 ⟨by rw [e9]; exact congrArg (fun z => some (Value.int z)) (oI_iI _).symm, by rw [e9]; exact A29, T29⟩
  by_cases h7 : x % 16 = 7
  · refine g_tsIn (q := 166) B4 7 dL_act_30 h7 ⟨by decide, by decide, by decide, by decide⟩ rfl (by decide) ?_
    refine g_aload_n (q := 167) B4 dL_act_166 rfl 3 rfl ?_
    refine g_bipush (q := 169) B4 dL_act_167 rfl (by decide) ?_
    refine g_iload (q := 171) B4 dL_act_169 rfl 0 rfl ?_
    refine g_iload_n (q := 172) B4 dL_act_171 rfl 2 rfl ?_
    refine g_bipush (q := 174) B4 dL_act_172 rfl (by decide) ?_
    refine g_idiv (q := 175) B4 dL_act_174 rfl (by omega) (by omega) (by omega) (by omega) ?_
    refine g_iconst (q := 176) B4 dL_act_175 rfl ?_
    refine g_irem (q := 177) B4 dL_act_176 rfl (by omega) (by omega) (by omega) (by omega) ?_
    refine g_iconst (q := 178) B4 dL_act_177 rfl ?_
    refine g_isub (q := 179) B4 dL_act_178 rfl ?_
    refine g_iconst (q := 180) B4 dL_act_179 rfl ?_
    refine g_callN (q := 183) (m1 := 1) (c2 := 3) (As := [.ref (yA Y 72), .int (iI 10), .int (iI ((x / 16) % (runsF (pG P)))), .int (iI ((((x / 16) / 16) % 3) - 1)), .int (iI 0)]) (st := []) B4 dL_act_180 rfl (k_give (Y := Y) (S := S3) hst A3 W ((x / 16) % (runsF (pG P))) ⟨by omega, by omega⟩ ((((x / 16) / 16) % 3) - 1) ⟨by omega, by omega⟩ 0 (x := (aGive P ((x / 16) % (runsF (pG P))) ((((x / 16) / 16) % 3) - 1)).1) (hx := rfl) (P' := (aGive P ((x / 16) % (runsF (pG P))) ((((x / 16) / 16) % 3) - 1)).2) (hP := rfl)) eL_call w179 (by decide) rfl rfl (Nat.le_of_ble_eq_true rfl) (by omega) (Nat.le_trans (show 3 ≤ 3 by omega) E.2.1) (Nat.le_trans (show 6 * (3) ≤ 6 * 3 by omega) E.2.2) (fun v S31 hS31 => ?_)
    obtain ⟨rfl, A31, K31⟩ := hS31
    have T31 := kp_t T3 K31
    have B32 := gB_K (c := 3) B4 (Nat.le_trans (show 3 ≤ 3 by omega) E.2.1) (Nat.le_trans (show 6 * (3) ≤ 6 * 3 by omega) E.2.2)
    show gW Y (xK X (3)) S31 183 [(4, .int (iI ((x / 16) % (runsF (pG P))))), (3, .int (iI (pG P 0))), (2, .int (iI (x / 16))), (0, .ref (yA Y 72)), (1, .int (iI x))] [.int (iI ((aGive P ((x / 16) % (runsF (pG P))) ((((x / 16) / 16) % 3) - 1)).1))]
    have e9 : acF P x = (aGive P ((x / 16) % (runsF (pG P))) ((((x / 16) / 16) % 3) - 1)) := by
      unfold acF
      rw [if_neg (by omega), if_neg (by omega), if_pos (by omega)]
    exact gn_iret B32 E (by omega) dL_act_183 ⟨by rw [e9]; exact congrArg (fun z => some (Value.int z)) (oI_iI _).symm, by rw [e9]; exact A31, T31⟩
  by_cases h8 : x % 16 = 8
  · refine g_tsIn (q := 184) B4 8 dL_act_30 h8 ⟨by decide, by decide, by decide, by decide⟩ rfl (by decide) ?_
    refine g_aload_n (q := 185) B4 dL_act_184 rfl 3 rfl ?_
    refine g_bipush (q := 187) B4 dL_act_185 rfl (by decide) ?_
    refine g_iload (q := 189) B4 dL_act_187 rfl 0 rfl ?_
    refine g_iconst (q := 190) B4 dL_act_189 rfl ?_
    refine g_iconst (q := 191) B4 dL_act_190 rfl ?_
    refine g_callN (q := 194) (m1 := 1) (c2 := 3) (As := [.ref (yA Y 72), .int (iI 11), .int (iI ((x / 16) % (runsF (pG P)))), .int (iI 0), .int (iI 0)]) (st := []) B4 dL_act_191 rfl (k_take (Y := Y) (S := S3) hst A3 W ((x / 16) % (runsF (pG P))) ⟨by omega, by omega⟩ 0 0 (x := (aTake P ((x / 16) % (runsF (pG P)))).1) (hx := rfl) (P' := (aTake P ((x / 16) % (runsF (pG P)))).2) (hP := rfl)) eL_call w179 (by decide) rfl rfl (Nat.le_of_ble_eq_true rfl) (by omega) (Nat.le_trans (show 3 ≤ 3 by omega) E.2.1) (Nat.le_trans (show 6 * (3) ≤ 6 * 3 by omega) E.2.2) (fun v S33 hS33 => ?_)
    obtain ⟨rfl, A33, K33⟩ := hS33
    have T33 := kp_t T3 K33
    have B34 := gB_K (c := 3) B4 (Nat.le_trans (show 3 ≤ 3 by omega) E.2.1) (Nat.le_trans (show 6 * (3) ≤ 6 * 3 by omega) E.2.2)
    show gW Y (xK X (3)) S33 194 [(4, .int (iI ((x / 16) % (runsF (pG P))))), (3, .int (iI (pG P 0))), (2, .int (iI (x / 16))), (0, .ref (yA Y 72)), (1, .int (iI x))] [.int (iI ((aTake P ((x / 16) % (runsF (pG P)))).1))]
    have e9 : acF P x = (aTake P ((x / 16) % (runsF (pG P)))) := by
      unfold acF
      rw [if_neg (by omega), if_neg (by omega), if_neg (by omega), if_pos (by omega)]
    exact gn_iret B34 E (by omega) dL_act_194 ⟨by rw [e9]; exact congrArg (fun z => some (Value.int z)) (oI_iI _).symm, by rw [e9]; exact A33, T33⟩
  by_cases h9 : x % 16 = 9
  · refine g_tsIn (q := 184) B4 9 dL_act_30 h9 ⟨by decide, by decide, by decide, by decide⟩ rfl (by decide) ?_
    refine g_aload_n (q := 185) B4 dL_act_184 rfl 3 rfl ?_
    refine g_bipush (q := 187) B4 dL_act_185 rfl (by decide) ?_
    refine g_iload (q := 189) B4 dL_act_187 rfl 0 rfl ?_
    refine g_iconst (q := 190) B4 dL_act_189 rfl ?_
    refine g_iconst (q := 191) B4 dL_act_190 rfl ?_
    refine g_callN (q := 194) (m1 := 1) (c2 := 3) (As := [.ref (yA Y 72), .int (iI 11), .int (iI ((x / 16) % (runsF (pG P)))), .int (iI 0), .int (iI 0)]) (st := []) B4 dL_act_191 rfl (k_take (Y := Y) (S := S3) hst A3 W ((x / 16) % (runsF (pG P))) ⟨by omega, by omega⟩ 0 0 (x := (aTake P ((x / 16) % (runsF (pG P)))).1) (hx := rfl) (P' := (aTake P ((x / 16) % (runsF (pG P)))).2) (hP := rfl)) eL_call w179 (by decide) rfl rfl (Nat.le_of_ble_eq_true rfl) (by omega) (Nat.le_trans (show 3 ≤ 3 by omega) E.2.1) (Nat.le_trans (show 6 * (3) ≤ 6 * 3 by omega) E.2.2) (fun v S35 hS35 => ?_)
    obtain ⟨rfl, A35, K35⟩ := hS35
    have T35 := kp_t T3 K35
    have B36 := gB_K (c := 3) B4 (Nat.le_trans (show 3 ≤ 3 by omega) E.2.1) (Nat.le_trans (show 6 * (3) ≤ 6 * 3 by omega) E.2.2)
    show gW Y (xK X (3)) S35 194 [(4, .int (iI ((x / 16) % (runsF (pG P))))), (3, .int (iI (pG P 0))), (2, .int (iI (x / 16))), (0, .ref (yA Y 72)), (1, .int (iI x))] [.int (iI ((aTake P ((x / 16) % (runsF (pG P)))).1))]
    have e9 : acF P x = (aTake P ((x / 16) % (runsF (pG P)))) := by
      unfold acF
      rw [if_neg (by omega), if_neg (by omega), if_neg (by omega), if_pos (by omega)]
    exact gn_iret B36 E (by omega) dL_act_194 ⟨by rw [e9]; exact congrArg (fun z => some (Value.int z)) (oI_iI _).symm, by rw [e9]; exact A35, T35⟩
  by_cases h10 : x % 16 = 10
  · refine g_tsIn (q := 195) B4 10 dL_act_30 h10 ⟨by decide, by decide, by decide, by decide⟩ rfl (by decide) ?_
    refine g_iload_n (q := 196) B4 dL_act_195 rfl 2 rfl ?_
    refine g_iconst (q := 197) B4 dL_act_196 rfl ?_
    refine g_irem (q := 198) B4 dL_act_197 rfl (by omega) (by omega) (by omega) (by omega) ?_
    refine g_if_ne (t := 217) (q := 201) B4 dL_act_198 (by decide) rfl ⟨by omega, by omega⟩ (fun cq198 => ?_) (fun cq198 => ?_)
    · refine g_aload_n (q := 218) B4 dL_act_217 rfl 3 rfl ?_
      refine g_bipush (q := 220) B4 dL_act_218 rfl (by decide) ?_
      refine g_iconst (q := 221) B4 dL_act_220 rfl ?_
      refine g_iconst (q := 222) B4 dL_act_221 rfl ?_
      refine g_iconst (q := 223) B4 dL_act_222 rfl ?_
      refine g_callN (q := 226) (m1 := 1) (c2 := 3) (As := [.ref (yA Y 72), .int (iI 13), .int (iI 0), .int (iI 0), .int (iI 0)]) (st := []) B4 dL_act_223 rfl (k_divide (Y := Y) (S := S3) hst A3 W  0 0 0 (x := (aDivide P).1) (hx := rfl) (P' := (aDivide P).2) (hP := rfl)) eL_call w179 (by decide) rfl rfl (Nat.le_of_ble_eq_true rfl) (by omega) (Nat.le_trans (show 3 ≤ 3 by omega) E.2.1) (Nat.le_trans (show 6 * (3) ≤ 6 * 3 by omega) E.2.2) (fun v S37 hS37 => ?_)
      obtain ⟨rfl, A37, K37⟩ := hS37
      have T37 := kp_t T3 K37
      have B38 := gB_K (c := 3) B4 (Nat.le_trans (show 3 ≤ 3 by omega) E.2.1) (Nat.le_trans (show 6 * (3) ≤ 6 * 3 by omega) E.2.2)
      show gW Y (xK X (3)) S37 226 [(4, .int (iI ((x / 16) % (runsF (pG P))))), (3, .int (iI (pG P 0))), (2, .int (iI (x / 16))), (0, .ref (yA Y 72)), (1, .int (iI x))] [.int (iI ((aDivide P).1))]
      have e9 : acF P x = (aDivide P) := by
        unfold acF
        rw [if_neg (by omega), if_neg (by omega), if_neg (by omega), if_neg (by omega), if_pos (by omega), if_neg (by omega)]
      exact gn_iret B38 E (by omega) dL_act_226 ⟨by rw [e9]; exact congrArg (fun z => some (Value.int z)) (oI_iI _).symm, by rw [e9]; exact A37, T37⟩
    · refine g_aload_n (q := 202) B4 dL_act_201 rfl 3 rfl ?_
      refine g_bipush (q := 204) B4 dL_act_202 rfl (by decide) ?_
      refine g_iload_n (q := 205) B4 dL_act_204 rfl 2 rfl ?_
      refine g_iconst (q := 206) B4 dL_act_205 rfl ?_
      refine g_idiv (q := 207) B4 dL_act_206 rfl (by omega) (by omega) (by omega) (by omega) ?_
      refine g_iconst (q := 208) B4 dL_act_207 rfl ?_
      refine g_irem (q := 209) B4 dL_act_208 rfl (by omega) (by omega) (by omega) (by omega) ?_
      refine g_iconst (q := 210) B4 dL_act_209 rfl ?_
      refine g_iconst (q := 211) B4 dL_act_210 rfl ?_
      refine g_callN (q := 214) (m1 := 1) (c2 := 3) (As := [.ref (yA Y 72), .int (iI 12), .int (iI (((x / 16) / 2) % 2)), .int (iI 0), .int (iI 0)]) (st := []) B4 dL_act_211 rfl (k_deal (Y := Y) (S := S3) hst A3 W (((x / 16) / 2) % 2) ⟨by omega, by omega⟩ 0 0 (x := (aDeal P (((x / 16) / 2) % 2)).1) (hx := rfl) (P' := (aDeal P (((x / 16) / 2) % 2)).2) (hP := rfl)) eL_call w179 (by decide) rfl rfl (Nat.le_of_ble_eq_true rfl) (by omega) (Nat.le_trans (show 3 ≤ 3 by omega) E.2.1) (Nat.le_trans (show 6 * (3) ≤ 6 * 3 by omega) E.2.2) (fun v S39 hS39 => ?_)
      obtain ⟨rfl, A39, K39⟩ := hS39
      have T39 := kp_t T3 K39
      have B40 := gB_K (c := 3) B4 (Nat.le_trans (show 3 ≤ 3 by omega) E.2.1) (Nat.le_trans (show 6 * (3) ≤ 6 * 3 by omega) E.2.2)
      show gW Y (xK X (3)) S39 214 [(4, .int (iI ((x / 16) % (runsF (pG P))))), (3, .int (iI (pG P 0))), (2, .int (iI (x / 16))), (0, .ref (yA Y 72)), (1, .int (iI x))] [.int (iI ((aDeal P (((x / 16) / 2) % 2)).1))]
      refine g_goto (q := 226) B40 dL_act_214 (by decide) ?_
      have e9 : acF P x = (aDeal P (((x / 16) / 2) % 2)) := by
        unfold acF
        rw [if_neg (by omega), if_neg (by omega), if_neg (by omega), if_neg (by omega), if_pos (by omega), if_pos (by omega)]
      exact gn_iret B40 E (by omega) dL_act_226 ⟨by rw [e9]; exact congrArg (fun z => some (Value.int z)) (oI_iI _).symm, by rw [e9]; exact A39, T39⟩
  by_cases h11 : x % 16 = 11
  · refine g_tsIn (q := 227) B4 11 dL_act_30 h11 ⟨by decide, by decide, by decide, by decide⟩ rfl (by decide) ?_
    refine g_iload_n (q := 228) B4 dL_act_227 rfl 2 rfl ?_
    refine g_iconst (q := 229) B4 dL_act_228 rfl ?_
    refine g_irem (q := 230) B4 dL_act_229 rfl (by omega) (by omega) (by omega) (by omega) ?_
    refine g_if_ne (t := 249) (q := 233) B4 dL_act_230 (by decide) rfl ⟨by omega, by omega⟩ (fun cq230 => ?_) (fun cq230 => ?_)
    · refine g_aload_n (q := 250) B4 dL_act_249 rfl 3 rfl ?_
      refine g_callV (n := 72) (ty := tyX7) (q := 253) (As := []) (st := []) B4 dL_act_250 rfl (k_turnRound (Y := Y) (l := xL X) (S := S3) A3 W) eX7_turnRound w922 (by decide) rfl rfl cls5 rfl rfl (Nat.le_of_ble_eq_true rfl) (fun v S41 hS41 => ?_)
      obtain ⟨rfl, A41, K41⟩ := hS41
      have T41 := kp_t T3 K41
      show gW Y (xK X (2)) S41 253 [(4, .int (iI ((x / 16) % (runsF (pG P))))), (3, .int (iI (pG P 0))), (2, .int (iI (x / 16))), (0, .ref (yA Y 72)), (1, .int (iI x))] [.int (iI (pG P 0))]
      have e9 : acF P x = (aTurn P) := by
        unfold acF
        rw [if_neg (by omega), if_neg (by omega), if_neg (by omega), if_neg (by omega), if_neg (by omega), if_pos (by omega), if_neg (by omega)]
      exact gn_iret B4 E (by omega) dL_act_253 ⟨by rw [e9]; exact congrArg (fun z => some (Value.int z)) (oI_iI _).symm, by rw [e9]; exact A41, T41⟩
    · refine g_aload_n (q := 234) B4 dL_act_233 rfl 3 rfl ?_
      refine g_bipush (q := 236) B4 dL_act_234 rfl (by decide) ?_
      refine g_iload_n (q := 237) B4 dL_act_236 rfl 2 rfl ?_
      refine g_iconst (q := 238) B4 dL_act_237 rfl ?_
      refine g_idiv (q := 239) B4 dL_act_238 rfl (by omega) (by omega) (by omega) (by omega) ?_
      refine g_iload_n (q := 240) B4 dL_act_239 rfl 1 rfl ?_
      refine g_irem (q := 241) B4 dL_act_240 rfl (by omega) (by omega) (by omega) (by omega) ?_
      refine g_iconst (q := 242) B4 dL_act_241 rfl ?_
      refine g_iconst (q := 243) B4 dL_act_242 rfl ?_
      refine g_callN (q := 246) (m1 := 1) (c2 := 3) (As := [.ref (yA Y 72), .int (iI 9), .int (iI (((x / 16) / 2) % (pG P 0))), .int (iI 0), .int (iI 0)]) (st := []) B4 dL_act_243 rfl (k_breakAt (Y := Y) (S := S3) hst A3 W (((x / 16) / 2) % (pG P 0)) ⟨by omega, by omega⟩ 0 0 (x := (aBreak P (((x / 16) / 2) % (pG P 0))).1) (hx := rfl) (P' := (aBreak P (((x / 16) / 2) % (pG P 0))).2) (hP := rfl)) eL_call w179 (by decide) rfl rfl (Nat.le_of_ble_eq_true rfl) (by omega) (Nat.le_trans (show 3 ≤ 3 by omega) E.2.1) (Nat.le_trans (show 6 * (3) ≤ 6 * 3 by omega) E.2.2) (fun v S42 hS42 => ?_)
      obtain ⟨rfl, A42, K42⟩ := hS42
      have T42 := kp_t T3 K42
      have B43 := gB_K (c := 3) B4 (Nat.le_trans (show 3 ≤ 3 by omega) E.2.1) (Nat.le_trans (show 6 * (3) ≤ 6 * 3 by omega) E.2.2)
      show gW Y (xK X (3)) S42 246 [(4, .int (iI ((x / 16) % (runsF (pG P))))), (3, .int (iI (pG P 0))), (2, .int (iI (x / 16))), (0, .ref (yA Y 72)), (1, .int (iI x))] [.int (iI ((aBreak P (((x / 16) / 2) % (pG P 0))).1))]
      refine g_goto (q := 253) B43 dL_act_246 (by decide) ?_
      have e9 : acF P x = (aBreak P (((x / 16) / 2) % (pG P 0))) := by
        unfold acF
        rw [if_neg (by omega), if_neg (by omega), if_neg (by omega), if_neg (by omega), if_neg (by omega), if_pos (by omega), if_pos (by omega)]
      exact gn_iret B43 E (by omega) dL_act_253 ⟨by rw [e9]; exact congrArg (fun z => some (Value.int z)) (oI_iI _).symm, by rw [e9]; exact A42, T42⟩
  by_cases h12 : x % 16 = 12
  · refine g_tsIn (q := 254) B4 12 dL_act_30 h12 ⟨by decide, by decide, by decide, by decide⟩ rfl (by decide) ?_
    refine g_aload_n (q := 255) B4 dL_act_254 rfl 3 rfl ?_
    refine g_bipush (q := 257) B4 dL_act_255 rfl (by decide) ?_
    refine g_iload_n (q := 258) B4 dL_act_257 rfl 2 rfl ?_
    refine g_iload_n (q := 259) B4 dL_act_258 rfl 1 rfl ?_
    refine g_irem (q := 260) B4 dL_act_259 rfl (by omega) (by omega) (by omega) (by omega) ?_
    refine g_iload_n (q := 261) B4 dL_act_260 rfl 2 rfl ?_
    refine g_bipush (q := 263) B4 dL_act_261 rfl (by decide) ?_
    refine g_idiv (q := 264) B4 dL_act_263 rfl (by omega) (by omega) (by omega) (by omega) ?_
    refine g_iload_n (q := 265) B4 dL_act_264 rfl 1 rfl ?_
    refine g_irem (q := 266) B4 dL_act_265 rfl (by omega) (by omega) (by omega) (by omega) ?_
    refine g_iconst (q := 267) B4 dL_act_266 rfl ?_
    refine g_callN (q := 270) (m1 := 1) (c2 := 3) (As := [.ref (yA Y 72), .int (iI 8), .int (iI ((x / 16) % (pG P 0))), .int (iI (((x / 16) / 16) % (pG P 0))), .int (iI 0)]) (st := []) B4 dL_act_267 rfl (k_exchange (Y := Y) (S := S3) hst A3 W ((x / 16) % (pG P 0)) ⟨by omega, by omega⟩ (((x / 16) / 16) % (pG P 0)) ⟨by omega, by omega⟩ 0 (x := (aChange P ((x / 16) % (pG P 0)) (((x / 16) / 16) % (pG P 0))).1) (hx := rfl) (P' := (aChange P ((x / 16) % (pG P 0)) (((x / 16) / 16) % (pG P 0))).2) (hP := rfl)) eL_call w179 (by decide) rfl rfl (Nat.le_of_ble_eq_true rfl) (by omega) (Nat.le_trans (show 3 ≤ 3 by omega) E.2.1) (Nat.le_trans (show 6 * (3) ≤ 6 * 3 by omega) E.2.2) (fun v S44 hS44 => ?_)
    obtain ⟨rfl, A44, K44⟩ := hS44
    have T44 := kp_t T3 K44
    have B45 := gB_K (c := 3) B4 (Nat.le_trans (show 3 ≤ 3 by omega) E.2.1) (Nat.le_trans (show 6 * (3) ≤ 6 * 3 by omega) E.2.2)
    show gW Y (xK X (3)) S44 270 [(4, .int (iI ((x / 16) % (runsF (pG P))))), (3, .int (iI (pG P 0))), (2, .int (iI (x / 16))), (0, .ref (yA Y 72)), (1, .int (iI x))] [.int (iI ((aChange P ((x / 16) % (pG P 0)) (((x / 16) / 16) % (pG P 0))).1))]
    have e9 : acF P x = (aChange P ((x / 16) % (pG P 0)) (((x / 16) / 16) % (pG P 0))) := by
      unfold acF
      rw [if_neg (by omega), if_neg (by omega), if_neg (by omega), if_neg (by omega), if_neg (by omega), if_neg (by omega), if_pos (by omega)]
    exact gn_iret B45 E (by omega) dL_act_270 ⟨by rw [e9]; exact congrArg (fun z => some (Value.int z)) (oI_iI _).symm, by rw [e9]; exact A44, T44⟩
  by_cases h13 : x % 16 = 13
  · refine g_tsIn (q := 271) B4 13 dL_act_30 h13 ⟨by decide, by decide, by decide, by decide⟩ rfl (by decide) ?_
    refine g_aload_n (q := 272) B4 dL_act_271 rfl 3 rfl ?_
    refine g_bipush (q := 274) B4 dL_act_272 rfl (by decide) ?_
    refine g_iload_n (q := 275) B4 dL_act_274 rfl 2 rfl ?_
    refine g_iconst (q := 276) B4 dL_act_275 rfl ?_
    refine g_irem (q := 277) B4 dL_act_276 rfl (by omega) (by omega) (by omega) (by omega) ?_
    refine g_iconst (q := 278) B4 dL_act_277 rfl ?_
    refine g_iconst (q := 279) B4 dL_act_278 rfl ?_
    refine g_callN (q := 282) (m1 := 1) (c2 := 3) (As := [.ref (yA Y 72), .int (iI 14), .int (iI ((x / 16) % 2)), .int (iI 0), .int (iI 0)]) (st := []) B4 dL_act_279 rfl (k_set (Y := Y) (S := S3) hst A3 W ((x / 16) % 2) ⟨by omega, by omega⟩ 0 0 (x := (aLay P ((x / 16) % 2)).1) (hx := rfl) (P' := (aLay P ((x / 16) % 2)).2) (hP := rfl)) eL_call w179 (by decide) rfl rfl (Nat.le_of_ble_eq_true rfl) (by omega) (Nat.le_trans (show 3 ≤ 3 by omega) E.2.1) (Nat.le_trans (show 6 * (3) ≤ 6 * 3 by omega) E.2.2) (fun v S46 hS46 => ?_)
    obtain ⟨rfl, A46, K46⟩ := hS46
    have T46 := kp_t T3 K46
    have B47 := gB_K (c := 3) B4 (Nat.le_trans (show 3 ≤ 3 by omega) E.2.1) (Nat.le_trans (show 6 * (3) ≤ 6 * 3 by omega) E.2.2)
    show gW Y (xK X (3)) S46 282 [(4, .int (iI ((x / 16) % (runsF (pG P))))), (3, .int (iI (pG P 0))), (2, .int (iI (x / 16))), (0, .ref (yA Y 72)), (1, .int (iI x))] [.int (iI ((aLay P ((x / 16) % 2)).1))]
    have e9 : acF P x = (aLay P ((x / 16) % 2)) := by
      unfold acF
      rw [if_neg (by omega), if_neg (by omega), if_neg (by omega), if_neg (by omega), if_neg (by omega), if_neg (by omega), if_neg (by omega), if_pos (by omega)]
    exact gn_iret B47 E (by omega) dL_act_282 ⟨by rw [e9]; exact congrArg (fun z => some (Value.int z)) (oI_iI _).symm, by rw [e9]; exact A46, T46⟩
  by_cases h14 : x % 16 = 14
  · refine g_tsIn (q := 283) B4 14 dL_act_30 h14 ⟨by decide, by decide, by decide, by decide⟩ rfl (by decide) ?_
    refine g_iload_n (q := 284) B4 dL_act_283 rfl 2 rfl ?_
    refine g_iconst (q := 285) B4 dL_act_284 rfl ?_
    refine g_irem (q := 286) B4 dL_act_285 rfl (by omega) (by omega) (by omega) (by omega) ?_
    refine g_if_ne (t := 305) (q := 289) B4 dL_act_286 (by decide) rfl ⟨by omega, by omega⟩ (fun cq286 => ?_) (fun cq286 => ?_)
    · refine g_aload_n (q := 306) B4 dL_act_305 rfl 3 rfl ?_
      refine g_bipush (q := 308) B4 dL_act_306 rfl (by decide) ?_
      refine g_iload_n (q := 309) B4 dL_act_308 rfl 2 rfl ?_
      refine g_iconst (q := 310) B4 dL_act_309 rfl ?_
      refine g_idiv (q := 311) B4 dL_act_310 rfl (by omega) (by omega) (by omega) (by omega) ?_
      refine g_iconst (q := 312) B4 dL_act_311 rfl ?_
      refine g_irem (q := 313) B4 dL_act_312 rfl (by omega) (by omega) (by omega) (by omega) ?_
      refine g_iconst (q := 314) B4 dL_act_313 rfl ?_
      refine g_iconst (q := 315) B4 dL_act_314 rfl ?_
      refine g_callN (q := 318) (m1 := 1) (c2 := 3) (As := [.ref (yA Y 72), .int (iI 21), .int (iI (((x / 16) / 2) % 2)), .int (iI 0), .int (iI 0)]) (st := []) B4 dL_act_315 rfl (k_restore (Y := Y) (S := S3) hst A3 W (((x / 16) / 2) % 2) ⟨by omega, by omega⟩ 0 0 (x := (aBack P (((x / 16) / 2) % 2)).1) (hx := rfl) (P' := (aBack P (((x / 16) / 2) % 2)).2) (hP := rfl)) eL_call w179 (by decide) rfl rfl (Nat.le_of_ble_eq_true rfl) (by omega) (Nat.le_trans (show 3 ≤ 3 by omega) E.2.1) (Nat.le_trans (show 6 * (3) ≤ 6 * 3 by omega) E.2.2) (fun v S48 hS48 => ?_)
      obtain ⟨rfl, A48, K48⟩ := hS48
      have T48 := kp_t T3 K48
      have B49 := gB_K (c := 3) B4 (Nat.le_trans (show 3 ≤ 3 by omega) E.2.1) (Nat.le_trans (show 6 * (3) ≤ 6 * 3 by omega) E.2.2)
      show gW Y (xK X (3)) S48 318 [(4, .int (iI ((x / 16) % (runsF (pG P))))), (3, .int (iI (pG P 0))), (2, .int (iI (x / 16))), (0, .ref (yA Y 72)), (1, .int (iI x))] [.int (iI ((aBack P (((x / 16) / 2) % 2)).1))]
      have e9 : acF P x = (aBack P (((x / 16) / 2) % 2)) := by
        unfold acF
        rw [if_neg (by omega), if_neg (by omega), if_neg (by omega), if_neg (by omega), if_neg (by omega), if_neg (by omega), if_neg (by omega), if_neg (by omega), if_pos (by omega), if_neg (by omega)]
      exact gn_iret B49 E (by omega) dL_act_318 ⟨by rw [e9]; exact congrArg (fun z => some (Value.int z)) (oI_iI _).symm, by rw [e9]; exact A48, T48⟩
    · refine g_aload_n (q := 290) B4 dL_act_289 rfl 3 rfl ?_
      refine g_bipush (q := 292) B4 dL_act_290 rfl (by decide) ?_
      refine g_iload_n (q := 293) B4 dL_act_292 rfl 2 rfl ?_
      refine g_iconst (q := 294) B4 dL_act_293 rfl ?_
      refine g_idiv (q := 295) B4 dL_act_294 rfl (by omega) (by omega) (by omega) (by omega) ?_
      refine g_iconst (q := 296) B4 dL_act_295 rfl ?_
      refine g_irem (q := 297) B4 dL_act_296 rfl (by omega) (by omega) (by omega) (by omega) ?_
      refine g_iconst (q := 298) B4 dL_act_297 rfl ?_
      refine g_iconst (q := 299) B4 dL_act_298 rfl ?_
      refine g_callN (q := 302) (m1 := 1) (c2 := 3) (As := [.ref (yA Y 72), .int (iI 20), .int (iI (((x / 16) / 2) % 2)), .int (iI 0), .int (iI 0)]) (st := []) B4 dL_act_299 rfl (k_save (Y := Y) (S := S3) hst A3 W (((x / 16) / 2) % 2) ⟨by omega, by omega⟩ 0 0 (x := (aKeep P (((x / 16) / 2) % 2)).1) (hx := rfl) (P' := (aKeep P (((x / 16) / 2) % 2)).2) (hP := rfl)) eL_call w179 (by decide) rfl rfl (Nat.le_of_ble_eq_true rfl) (by omega) (Nat.le_trans (show 3 ≤ 3 by omega) E.2.1) (Nat.le_trans (show 6 * (3) ≤ 6 * 3 by omega) E.2.2) (fun v S50 hS50 => ?_)
      obtain ⟨rfl, A50, K50⟩ := hS50
      have T50 := kp_t T3 K50
      have B51 := gB_K (c := 3) B4 (Nat.le_trans (show 3 ≤ 3 by omega) E.2.1) (Nat.le_trans (show 6 * (3) ≤ 6 * 3 by omega) E.2.2)
      show gW Y (xK X (3)) S50 302 [(4, .int (iI ((x / 16) % (runsF (pG P))))), (3, .int (iI (pG P 0))), (2, .int (iI (x / 16))), (0, .ref (yA Y 72)), (1, .int (iI x))] [.int (iI ((aKeep P (((x / 16) / 2) % 2)).1))]
      refine g_goto (q := 318) B51 dL_act_302 (by decide) ?_
      have e9 : acF P x = (aKeep P (((x / 16) / 2) % 2)) := by
        unfold acF
        rw [if_neg (by omega), if_neg (by omega), if_neg (by omega), if_neg (by omega), if_neg (by omega), if_neg (by omega), if_neg (by omega), if_neg (by omega), if_pos (by omega), if_pos (by omega)]
      exact gn_iret B51 E (by omega) dL_act_318 ⟨by rw [e9]; exact congrArg (fun z => some (Value.int z)) (oI_iI _).symm, by rw [e9]; exact A50, T50⟩
  refine g_tsOut (q := 319) B4 dL_act_30 (by omega) ⟨by omega, by omega⟩ (by decide) ?_
  refine g_iload_n (q := 320) B4 dL_act_319 rfl 1 rfl ?_
  refine g_iconst (q := 321) B4 dL_act_320 rfl ?_
  refine g_icmp_ge (t := 328) (q := 324) B4 dL_act_321 (by decide) rfl ⟨by omega, by omega⟩ ⟨by omega, by omega⟩ (fun cq321 => ?_) (fun cq321 => ?_)
  · refine g_aload_n (q := 329) B4 dL_act_328 rfl 3 rfl ?_
    refine g_bipush (q := 331) B4 dL_act_329 rfl (by decide) ?_
    refine g_iconst (q := 332) B4 dL_act_331 rfl ?_
    refine g_iconst (q := 333) B4 dL_act_332 rfl ?_
    refine g_iconst (q := 334) B4 dL_act_333 rfl ?_
    refine g_callN (q := 337) (m1 := 1) (c2 := 3) (As := [.ref (yA Y 72), .int (iI 15), .int (iI 0), .int (iI 0), .int (iI 0)]) (st := []) B4 dL_act_334 rfl (k_undo (Y := Y) (S := S3) hst A3 W  0 0 0 (x := (aUndo P).1) (hx := rfl) (P' := (aUndo P).2) (hP := rfl)) eL_call w179 (by decide) rfl rfl (Nat.le_of_ble_eq_true rfl) (by omega) (Nat.le_trans (show 3 ≤ 3 by omega) E.2.1) (Nat.le_trans (show 6 * (3) ≤ 6 * 3 by omega) E.2.2) (fun v S52 hS52 => ?_)
    obtain ⟨rfl, A52, K52⟩ := hS52
    have T52 := kp_t T3 K52
    have B53 := gB_K (c := 3) B4 (Nat.le_trans (show 3 ≤ 3 by omega) E.2.1) (Nat.le_trans (show 6 * (3) ≤ 6 * 3 by omega) E.2.2)
    show gW Y (xK X (3)) S52 337 [(4, .int (iI ((x / 16) % (runsF (pG P))))), (3, .int (iI (pG P 0))), (2, .int (iI (x / 16))), (0, .ref (yA Y 72)), (1, .int (iI x))] [.int (iI ((aUndo P).1))]
    have e9 : acF P x = (aUndo P) := by
      unfold acF
      rw [if_neg (by omega), if_neg (by omega), if_neg (by omega), if_neg (by omega), if_neg (by omega), if_neg (by omega), if_neg (by omega), if_neg (by omega), if_neg (by omega), if_neg (by omega)]
    exact gn_iret B53 E (by omega) dL_act_337 ⟨by rw [e9]; exact congrArg (fun z => some (Value.int z)) (oI_iI _).symm, by rw [e9]; exact A52, T52⟩
  · refine g_iconst (q := 325) B4 dL_act_324 rfl ?_
    refine g_goto (q := 337) B4 dL_act_325 (by decide) ?_
    have e9 : acF P x = ((-1 : Int), P) := by
      unfold acF
      rw [if_neg (by omega), if_neg (by omega), if_neg (by omega), if_neg (by omega), if_neg (by omega), if_neg (by omega), if_neg (by omega), if_neg (by omega), if_neg (by omega), if_pos (by omega)]
    exact gn_iret B4 E (by omega) dL_act_337 ⟨by rw [e9]; exact congrArg (fun z => some (Value.int z)) (oI_iI _).symm, by rw [e9]; exact A3, T3⟩
