/-! TAKES -/
/-- the row of runOf's third number -/
theorem tv_own {g : Int → Int} {r o : Int} (h0 : 0 ≤ r) (h1 : r < runsF g) (h : g (38 + fpF g r) = o) : tv (cd_runOf g r 2) (vl_runOf g r 2) (-9999001) (-9999002) 0 = o := by
  have e : cd_runOf g r 2 = 0 := (if_pos (by omega)).trans (if_pos (by omega))
  rw [tv_0 e]
  exact h
theorem tv_give {g : Int → Int} {r o x y e1 e2 e3 : Int} (h0 : 0 ≤ r) (h1 : r < runsF g) (ho : -1 ≤ o ∧ o ≤ 1) (h : x = y) : tv (cd_give g r o) x e1 e2 e3 = y := by
  have e : cd_give g r o = 0 := (if_pos (by omega)).trans (if_pos (by omega))
  rw [tv_0 e]
  exact h
theorem cd_give0 {g : Int → Int} {r o : Int} (h0 : 0 ≤ r) (h1 : r < runsF g) (ho : -1 ≤ o ∧ o ≤ 1) : cd_give g r o = 0 := (if_pos (by omega)).trans (if_pos (by omega))
theorem cd_take0 {g : Int → Int} {r : Int} (h0 : 0 ≤ r) (h1 : r < runsF g) : cd_take g r = 0 := if_pos (by omega)
theorem cd_undo0 {a : Int} (h : 0 < a) : cd_undo a = 0 := if_neg (by omega)
set_option maxHeartbeats 16000000 in
theorem c_takes {Y : gY} {l : Launch} {S : SS} {P : PT} (hst : l.stackTraces = false) (A0 : PK P S) (D0 : PK P (sS S)) (V : OK P) (x : Int) (hx0 : 0 ≤ x ∧ x < 2147483648) : gN Y l mL_takes 40 S [.ref (yA Y 72), .ref (yA Y 172), .int (iI x)] (fun v S' => v = some (.int (iI 1)) ∧ ∃ P' : PT, OK P' ∧ PK P' S' ∧ PK P' (sS S')) := by
  refine gN_of (by decide) (Nat.le_of_ble_eq_true rfl) ?_
  intro X hXl B E
  subst hXl
  obtain ⟨W, C⟩ := id V
  have hb := pic_in W C
  have hw := W.1
  have m1 := md_in x hb.2.1
  obtain ⟨r, hr⟩ : ∃ r : Int, x % runsF (pG P) = r := ⟨_, rfl⟩
  rw [hr] at m1
  obtain ⟨tt, htt⟩ : ∃ t : Int, ((x / 16) % 3) - 1 = t := ⟨_, rfl⟩
  have ht : -1 ≤ tt ∧ tt ≤ 1 := by omega
  obtain ⟨hd, hhd⟩ : ∃ z : Int, gapF (pG P) = z := ⟨_, rfl⟩
  obtain ⟨ig, hig⟩ : ∃ z : Int, gapF (giveG (pG P) r tt) = z := ⟨_, rfl⟩
  obtain ⟨ow, how⟩ : ∃ z : Int, (pG P) (38 + fpF (pG P) r) = z := ⟨_, rfl⟩
  obtain ⟨mv, hmv⟩ : ∃ z : Int, (pG P) 2 = z := ⟨_, rfl⟩
  obtain ⟨wy, hwy⟩ : ∃ z : Int, whyF (pG P) r = z := ⟨_, rfl⟩
  obtain ⟨bs, hbs⟩ : ∃ z : Int, (ckG (pG P) (runsF (pG P)).toNat).1 = z := ⟨_, rfl⟩
  obtain ⟨gp, hgp⟩ : ∃ z : Int, gapF (takeM (pG P) r) = z := ⟨_, rfl⟩
  obtain ⟨nb, hnb⟩ : ∃ z : Int, nobF (pG P) = z := ⟨_, rfl⟩
  obtain ⟨ls, hls⟩ : ∃ z : Int, gapF (giveG (pG P) bs (pG P 2)) = z := ⟨_, rfl⟩
  have r1 := gapF_in hw
  rw [hhd] at r1
  have r2 := gapF_in (wf_giveG hw r tt)
  rw [hig] at r2
  have r3 := own_in hw m1.1 m1.2
  rw [how] at r3
  have r4 := hw.2.2.1
  rw [hmv] at r4
  have r5 := gapF_in (wf_takeM hw r)
  rw [hgp] at r5
  have r6 := nobF_in hw
  rw [hnb] at r6
  have r7 := gapF_in (wf_giveG hw bs (pG P 2))
  rw [hls] at r7
  have r8 := ckG_in hw (runsF (pG P)).toNat
  rw [hbs] at r8
  have g1 := give_own hw m1.1 m1.2 ht.1 ht.2
  have hy := why_is (pG P) r
  rw [how, hmv, hwy] at hy
  have bn := best_nob hw (by omega)
  rw [hbs, hnb] at bn
  obtain ⟨P1, hP1⟩ : ∃ z : PT, pPush P (giveG (pG P) r tt) = z := ⟨_, rfl⟩
  have e1 : pG P1 = giveG (pG P) r tt := by rw [← hP1]; rfl
  have V1 : OK P1 := by rw [← hP1]; exact ok_push0 V (wf_giveG hw _ _) (n_give _ _)
  have k1 : 0 < pK P1 := by rw [← hP1]; exact pK_push P _ W
  have k1b := V1.1.2.2.1
  obtain ⟨P2, hP2⟩ : ∃ z : PT, pUndo P1 = z := ⟨_, rfl⟩
  have e2 : pG P2 = pG P := by rw [← hP2, ← hP1]; exact un_g P _ W
  have V2 : OK P2 := by rw [← hP2, ← hP1]; exact ok_un V (wf_giveG hw _ _) (n_give _ _)
  obtain ⟨P3, hP3⟩ : ∃ z : PT, pPush P2 (takeM (pG P) r) = z := ⟨_, rfl⟩
  have e3 : pG P3 = takeM (pG P) r := by rw [← hP3]; rfl
  have n3 : takeM (pG P) r 0 = pG P2 0 := by rw [e2]; exact n_take r
  have V3 : OK P3 := by rw [← hP3]; exact ok_push0 V2 (wf_takeM hw _) n3
  have k3 : 0 < pK P3 := by rw [← hP3]; exact pK_push P2 _ V2.1
  have k3b := V3.1.2.2.1
  obtain ⟨P4, hP4⟩ : ∃ z : PT, pUndo P3 = z := ⟨_, rfl⟩
  have e4 : pG P4 = pG P := by rw [← hP4, ← hP3]; exact (un_g P2 _ V2.1).trans e2
  have V4 : OK P4 := by rw [← hP4, ← hP3]; exact ok_un V2 (wf_takeM hw _) n3
  have ty : wy = 0 → takeM (pG P) r 2 = 1 - mv ∧ takeM (pG P) r 3 = pG P 3 ∧ takeM (pG P) r (38 + fpF (takeM (pG P) r) r) = mv ∧ gp = gapF (giveG (pG P) r (pG P 2)) ∧ runsF (takeM (pG P) r) = runsF (pG P) := fun z => by
    have := take_y hw m1.1 m1.2 (hwy.trans z)
    rw [hmv, hgp] at this
    rw [hmv]
    exact this
  have tn : wy ≠ 0 → takeM (pG P) r 2 = mv ∧ takeM (pG P) r 3 = pG P 3 + 1 ∧ takeM (pG P) r (38 + fpF (takeM (pG P) r) r) = ow ∧ runsF (takeM (pG P) r) = runsF (pG P) := fun z => by
    have := take_n hw m1.1 m1.2 (by rw [hwy]; exact z)
    rw [hmv, how] at this
    exact this
  obtain ⟨t2, ht2⟩ : ∃ z : Int, takeM (pG P) r 2 = z := ⟨_, rfl⟩
  obtain ⟨t3, ht3⟩ : ∃ z : Int, takeM (pG P) r 3 = z := ⟨_, rfl⟩
  obtain ⟨t8, ht8⟩ : ∃ z : Int, takeM (pG P) r (38 + fpF (takeM (pG P) r) r) = z := ⟨_, rfl⟩
  obtain ⟨t9, ht9⟩ : ∃ z : Int, runsF (takeM (pG P) r) = z := ⟨_, rfl⟩
  obtain ⟨rf, hrf⟩ : ∃ z : Int, pG P 3 = z := ⟨_, rfl⟩
  rw [ht2, ht3, ht8, ht9, hrf] at ty tn
  have yr : 0 ≤ wy ∧ wy ≤ 2 := by rw [← hwy]; exact whyF_in _ _
  have q9 : t9 = runsF (pG P) := by
    by_cases z : wy = 0
    · exact (ty z).2.2.2.2
    · exact (tn z).2.2.2
  have q2 : 0 ≤ t2 ∧ t2 ≤ 1 := by
    by_cases z : wy = 0
    · have := (ty z).1; omega
    · have := (tn z).1; omega
  have q8 : -1 ≤ t8 ∧ t8 ≤ 1 := by
    by_cases z : wy = 0
    · have := (ty z).2.2.1; omega
    · have := (tn z).2.2.1; omega
  have br : bs ≠ -1 → (0 ≤ bs ∧ bs < runsF (pG P)) ∧ pG P (38 + fpF (pG P) bs) = -1 ∧ (wy = 0 → ls < gp ∨ (ls = gp ∧ bs ≤ r)) := fun z => by
    have h2 := best_run hw m1.1 m1.2 hbs z
    rw [hls, hwy] at h2
    refine ⟨h2.1, h2.2.1, fun zz => ?_⟩
    rw [(ty zz).2.2.2.1]
    exact h2.2.2 zz
  show gW Y (xK X 0) S 0 [(0, .ref (yA Y 72)), (1, .ref (yA Y 172)), (2, .int (iI x))] []
  refine g_aload_n (q := 1) B dL_takes_0 rfl 0 rfl ?_
  refine g_iconst (q := 2) B dL_takes_1 rfl ?_
  refine g_iconst (q := 3) B dL_takes_2 rfl ?_
  refine g_iconst (q := 4) B dL_takes_3 rfl ?_
  refine g_iconst (q := 5) B dL_takes_4 rfl ?_
  refine g_callN (q := 8) (m1 := 1) (c2 := 1) (As := [.ref (yA Y 72), .int (iI 2), .int (iI 3), .int (iI 0), .int (iI 0)]) (st := []) B dL_takes_5 rfl (k_about (Y := Y) (S := S) hst A0 W 3 ⟨by omega, by omega⟩ 0 0 (x := runsF (pG P)) (hx := rfl)) eL_call w179 (by decide) rfl rfl (Nat.le_of_ble_eq_true rfl) (by omega) (Nat.le_trans (show 1 ≤ 40 by omega) E.2.1) (Nat.le_trans (show 6 * (1) ≤ 6 * 40 by omega) E.2.2) (fun v S1 hS1 => ?_)
  obtain ⟨rfl, A1, K1⟩ := hS1
  have D1 := PK_o2 D0 K1
  have B2 := gB_K (c := 1) B (Nat.le_trans (show 1 ≤ 40 by omega) E.2.1) (Nat.le_trans (show 6 * (1) ≤ 6 * 40 by omega) E.2.2)
  show gW Y (xK X (1)) S1 8 [(0, .ref (yA Y 72)), (1, .ref (yA Y 172)), (2, .int (iI x))] [.int (iI (runsF (pG P)))]
  refine g_istore_n (q := 9) B2 dL_takes_8 rfl (by decide) (L' := [(3, .int (iI (runsF (pG P)))), (0, .ref (yA Y 72)), (1, .ref (yA Y 172)), (2, .int (iI x))]) rfl ?_
  refine g_iload_n (q := 10) B2 dL_takes_9 rfl 3 rfl ?_
  refine g_iload_n (q := 11) B2 dL_takes_10 rfl 0 rfl ?_
  refine g_irem (q := 12) B2 dL_takes_11 rfl (by omega) (by omega) (by omega) (by omega) ?_
  refine g_eqT (st' := [.int (iI r)]) (by rw [hr]) ?_
  refine g_istore (q := 14) B2 dL_takes_12 rfl (by decide) (L' := [(4, .int (iI r)), (3, .int (iI (runsF (pG P)))), (0, .ref (yA Y 72)), (1, .ref (yA Y 172)), (2, .int (iI x))]) rfl ?_
  refine g_iload_n (q := 15) B2 dL_takes_14 rfl 4 rfl ?_
  refine g_bipush (q := 17) B2 dL_takes_15 rfl (by decide) ?_
  refine g_idiv (q := 18) B2 dL_takes_17 rfl (by omega) (by omega) (by omega) (by omega) ?_
  refine g_iconst (q := 19) B2 dL_takes_18 rfl ?_
  refine g_irem (q := 20) B2 dL_takes_19 rfl (by omega) (by omega) (by omega) (by omega) ?_
  refine g_iconst (q := 21) B2 dL_takes_20 rfl ?_
  refine g_isub (q := 22) B2 dL_takes_21 rfl ?_
  refine g_eqT (st' := [.int (iI tt)]) (by rw [htt]) ?_
  refine g_istore (q := 24) B2 dL_takes_22 rfl (by decide) (L' := [(5, .int (iI tt)), (4, .int (iI r)), (3, .int (iI (runsF (pG P)))), (0, .ref (yA Y 72)), (1, .ref (yA Y 172)), (2, .int (iI x))]) rfl ?_
  refine g_aload_n (q := 25) B2 dL_takes_24 rfl 3 rfl ?_
  refine g_iconst (q := 26) B2 dL_takes_25 rfl ?_
  refine g_iconst (q := 27) B2 dL_takes_26 rfl ?_
  refine g_iconst (q := 28) B2 dL_takes_27 rfl ?_
  refine g_iconst (q := 29) B2 dL_takes_28 rfl ?_
  refine g_callN (q := 32) (m1 := 1) (c2 := 2) (As := [.ref (yA Y 72), .int (iI 2), .int (iI 4), .int (iI 0), .int (iI 0)]) (st := []) B2 dL_takes_29 rfl (k_about (Y := Y) (S := S1) hst A1 W 4 ⟨by omega, by omega⟩ 0 0 (x := hd) (hx := hhd)) eL_call w179 (by decide) rfl rfl (Nat.le_of_ble_eq_true rfl) (by omega) (Nat.le_trans (show 2 ≤ 40 by omega) E.2.1) (Nat.le_trans (show 6 * (2) ≤ 6 * 40 by omega) E.2.2) (fun v S3 hS3 => ?_)
  obtain ⟨rfl, A3, K3⟩ := hS3
  have D3 := PK_o2 D1 K3
  have B4 := gB_K (c := 2) B2 (Nat.le_trans (show 2 ≤ 40 by omega) E.2.1) (Nat.le_trans (show 6 * (2) ≤ 6 * 40 by omega) E.2.2)
  show gW Y (xK X (2)) S3 32 [(5, .int (iI tt)), (4, .int (iI r)), (3, .int (iI (runsF (pG P)))), (0, .ref (yA Y 72)), (1, .ref (yA Y 172)), (2, .int (iI x))] [.int (iI hd)]
  refine g_istore (q := 34) B4 dL_takes_32 rfl (by decide) (L' := [(6, .int (iI hd)), (5, .int (iI tt)), (4, .int (iI r)), (3, .int (iI (runsF (pG P)))), (0, .ref (yA Y 72)), (1, .ref (yA Y 172)), (2, .int (iI x))]) rfl ?_
  refine g_aload_n (q := 35) B4 dL_takes_34 rfl 4 rfl ?_
  refine g_bipush (q := 37) B4 dL_takes_35 rfl (by decide) ?_
  refine g_iload (q := 39) B4 dL_takes_37 rfl 2 rfl ?_
  refine g_iload (q := 41) B4 dL_takes_39 rfl 1 rfl ?_
  refine g_iconst (q := 42) B4 dL_takes_41 rfl ?_
  refine g_callN (q := 45) (m1 := 1) (c2 := 3) (As := [.ref (yA Y 72), .int (iI 19), .int (iI r), .int (iI tt), .int (iI 0)]) (st := []) B4 dL_takes_42 rfl (k_ifGiven (Y := Y) (S := S3) hst A3 W r ⟨by omega, by omega⟩ tt ⟨by omega, by omega⟩ 0 (x := ig) (hx := tv_give m1.1 m1.2 ht hig)) eL_call w179 (by decide) rfl rfl (Nat.le_of_ble_eq_true rfl) (by omega) (Nat.le_trans (show 3 ≤ 40 by omega) E.2.1) (Nat.le_trans (show 6 * (3) ≤ 6 * 40 by omega) E.2.2) (fun v S5 hS5 => ?_)
  obtain ⟨rfl, A5, K5⟩ := hS5
  have D5 := PK_o2 D3 K5
  have B6 := gB_K (c := 3) B4 (Nat.le_trans (show 3 ≤ 40 by omega) E.2.1) (Nat.le_trans (show 6 * (3) ≤ 6 * 40 by omega) E.2.2)
  show gW Y (xK X (3)) S5 45 [(6, .int (iI hd)), (5, .int (iI tt)), (4, .int (iI r)), (3, .int (iI (runsF (pG P)))), (0, .ref (yA Y 72)), (1, .ref (yA Y 172)), (2, .int (iI x))] [.int (iI ig)]
  refine g_istore (q := 47) B6 dL_takes_45 rfl (by decide) (L' := [(7, .int (iI ig)), (6, .int (iI hd)), (5, .int (iI tt)), (4, .int (iI r)), (3, .int (iI (runsF (pG P)))), (0, .ref (yA Y 72)), (1, .ref (yA Y 172)), (2, .int (iI x))]) rfl ?_
  refine g_aload_n (q := 48) B6 dL_takes_47 rfl 5 rfl ?_
  refine g_iconst (q := 49) B6 dL_takes_48 rfl ?_
  refine g_iload (q := 51) B6 dL_takes_49 rfl 3 rfl ?_
  refine g_iconst (q := 52) B6 dL_takes_51 rfl ?_
  refine g_iconst (q := 53) B6 dL_takes_52 rfl ?_
  refine g_callN (q := 56) (m1 := 1) (c2 := 4) (As := [.ref (yA Y 72), .int (iI 5), .int (iI r), .int (iI 2), .int (iI 0)]) (st := []) B6 dL_takes_53 rfl (k_runOf (Y := Y) (S := S5) hst A5 W r ⟨by omega, by omega⟩ 2 ⟨by omega, by omega⟩ 0 (x := ow) (hx := tv_own m1.1 m1.2 how)) eL_call w179 (by decide) rfl rfl (Nat.le_of_ble_eq_true rfl) (by omega) (Nat.le_trans (show 4 ≤ 40 by omega) E.2.1) (Nat.le_trans (show 6 * (4) ≤ 6 * 40 by omega) E.2.2) (fun v S7 hS7 => ?_)
  obtain ⟨rfl, A7, K7⟩ := hS7
  have D7 := PK_o2 D5 K7
  have B8 := gB_K (c := 4) B6 (Nat.le_trans (show 4 ≤ 40 by omega) E.2.1) (Nat.le_trans (show 6 * (4) ≤ 6 * 40 by omega) E.2.2)
  show gW Y (xK X (4)) S7 56 [(7, .int (iI ig)), (6, .int (iI hd)), (5, .int (iI tt)), (4, .int (iI r)), (3, .int (iI (runsF (pG P)))), (0, .ref (yA Y 72)), (1, .ref (yA Y 172)), (2, .int (iI x))] [.int (iI ow)]
  refine g_istore (q := 58) B8 dL_takes_56 rfl (by decide) (L' := [(8, .int (iI ow)), (7, .int (iI ig)), (6, .int (iI hd)), (5, .int (iI tt)), (4, .int (iI r)), (3, .int (iI (runsF (pG P)))), (0, .ref (yA Y 72)), (1, .ref (yA Y 172)), (2, .int (iI x))]) rfl ?_
  refine g_aload_n (q := 59) B8 dL_takes_58 rfl 6 rfl ?_
  refine g_bipush (q := 61) B8 dL_takes_59 rfl (by decide) ?_
  refine g_iload (q := 63) B8 dL_takes_61 rfl 4 rfl ?_
  refine g_iload (q := 65) B8 dL_takes_63 rfl 3 rfl ?_
  refine g_iconst (q := 66) B8 dL_takes_65 rfl ?_
  refine g_callN (q := 69) (m1 := 1) (c2 := 5) (As := [.ref (yA Y 72), .int (iI 10), .int (iI r), .int (iI tt), .int (iI 0)]) (st := []) B8 dL_takes_66 rfl (k_give (Y := Y) (S := S7) hst A7 W r ⟨by omega, by omega⟩ tt ⟨by omega, by omega⟩ 0 (x := ig) (hx := tv_give m1.1 m1.2 ht hig) (P' := P1) (hP := (if_pos (cd_give0 m1.1 m1.2 ht)).trans hP1)) eL_call w179 (by decide) rfl rfl (Nat.le_of_ble_eq_true rfl) (by omega) (Nat.le_trans (show 5 ≤ 40 by omega) E.2.1) (Nat.le_trans (show 6 * (5) ≤ 6 * 40 by omega) E.2.2) (fun v S9 hS9 => ?_)
  obtain ⟨rfl, A9, K9⟩ := hS9
  have D9 := PK_o2 D7 K9
  have B10 := gB_K (c := 5) B8 (Nat.le_trans (show 5 ≤ 40 by omega) E.2.1) (Nat.le_trans (show 6 * (5) ≤ 6 * 40 by omega) E.2.2)
  show gW Y (xK X (5)) S9 69 [(8, .int (iI ow)), (7, .int (iI ig)), (6, .int (iI hd)), (5, .int (iI tt)), (4, .int (iI r)), (3, .int (iI (runsF (pG P)))), (0, .ref (yA Y 72)), (1, .ref (yA Y 172)), (2, .int (iI x))] [.int (iI ig)]
  refine g_iload (q := 71) B10 dL_takes_69 rfl 1 rfl ?_
  refine g_icmp_ne (t := 181) (q := 74) B10 dL_takes_71 (by decide) rfl ⟨by omega, by omega⟩ ⟨by omega, by omega⟩ (fun cq71 => absurd cq71 (by omega)) (fun cq71 => ?_)
  refine g_aload_n (q := 75) B10 dL_takes_74 rfl 7 rfl ?_
  refine g_bipush (q := 77) B10 dL_takes_75 rfl (by decide) ?_
  refine g_iload (q := 79) B10 dL_takes_77 rfl 4 rfl ?_
  refine g_iload (q := 81) B10 dL_takes_79 rfl 3 rfl ?_
  refine g_iconst (q := 82) B10 dL_takes_81 rfl ?_
  refine g_callN (q := 85) (m1 := 1) (c2 := 6) (As := [.ref (yA Y 172), .int (iI 10), .int (iI r), .int (iI tt), .int (iI 0)]) (st := []) B10 dL_takes_82 rfl (gN_sw (k_give (Y := ySw Y) (S := sS S9) hst D9 W r ⟨by omega, by omega⟩ tt ⟨by omega, by omega⟩ 0 (x := ig) (hx := tv_give m1.1 m1.2 ht hig) (P' := P1) (hP := (if_pos (cd_give0 m1.1 m1.2 ht)).trans hP1))) eL_call w179 (by decide) rfl rfl (Nat.le_of_ble_eq_true rfl) (by omega) (Nat.le_trans (show 6 ≤ 40 by omega) E.2.1) (Nat.le_trans (show 6 * (6) ≤ 6 * 40 by omega) E.2.2) (fun v S11 hS11 => ?_)
  obtain ⟨rfl, D11, K11⟩ := hS11
  have A11 := PK_o1 A9 K11
  have B12 := gB_K (c := 6) B10 (Nat.le_trans (show 6 ≤ 40 by omega) E.2.1) (Nat.le_trans (show 6 * (6) ≤ 6 * 40 by omega) E.2.2)
  show gW Y (xK X (6)) S11 85 [(8, .int (iI ow)), (7, .int (iI ig)), (6, .int (iI hd)), (5, .int (iI tt)), (4, .int (iI r)), (3, .int (iI (runsF (pG P)))), (0, .ref (yA Y 72)), (1, .ref (yA Y 172)), (2, .int (iI x))] [.int (iI ig)]
  refine g_iload (q := 87) B12 dL_takes_85 rfl 1 rfl ?_
  refine g_icmp_ne (t := 181) (q := 90) B12 dL_takes_87 (by decide) rfl ⟨by omega, by omega⟩ ⟨by omega, by omega⟩ (fun cq87 => absurd cq87 (by omega)) (fun cq87 => ?_)
  refine g_aload_n (q := 91) B12 dL_takes_90 rfl 6 rfl ?_
  refine g_iconst (q := 92) B12 dL_takes_91 rfl ?_
  refine g_iconst (q := 93) B12 dL_takes_92 rfl ?_
  refine g_iconst (q := 94) B12 dL_takes_93 rfl ?_
  refine g_iconst (q := 95) B12 dL_takes_94 rfl ?_
  refine g_callN (q := 98) (m1 := 1) (c2 := 7) (As := [.ref (yA Y 72), .int (iI 2), .int (iI 4), .int (iI 0), .int (iI 0)]) (st := []) B12 dL_takes_95 rfl (k_about (Y := Y) (S := S11) hst A11 V1.1 4 ⟨by omega, by omega⟩ 0 0 (x := ig) (hx := (by rw [e1]; exact hig))) eL_call w179 (by decide) rfl rfl (Nat.le_of_ble_eq_true rfl) (by omega) (Nat.le_trans (show 7 ≤ 40 by omega) E.2.1) (Nat.le_trans (show 6 * (7) ≤ 6 * 40 by omega) E.2.2) (fun v S13 hS13 => ?_)
  obtain ⟨rfl, A13, K13⟩ := hS13
  have D13 := PK_o2 D11 K13
  have B14 := gB_K (c := 7) B12 (Nat.le_trans (show 7 ≤ 40 by omega) E.2.1) (Nat.le_trans (show 6 * (7) ≤ 6 * 40 by omega) E.2.2)
  show gW Y (xK X (7)) S13 98 [(8, .int (iI ow)), (7, .int (iI ig)), (6, .int (iI hd)), (5, .int (iI tt)), (4, .int (iI r)), (3, .int (iI (runsF (pG P)))), (0, .ref (yA Y 72)), (1, .ref (yA Y 172)), (2, .int (iI x))] [.int (iI ig)]
  refine g_iload (q := 100) B14 dL_takes_98 rfl 1 rfl ?_
  refine g_icmp_ne (t := 181) (q := 103) B14 dL_takes_100 (by decide) rfl ⟨by omega, by omega⟩ ⟨by omega, by omega⟩ (fun cq100 => absurd cq100 (by omega)) (fun cq100 => ?_)
  refine g_aload_n (q := 104) B14 dL_takes_103 rfl 6 rfl ?_
  refine g_iconst (q := 105) B14 dL_takes_104 rfl ?_
  refine g_iload (q := 107) B14 dL_takes_105 rfl 4 rfl ?_
  refine g_iconst (q := 108) B14 dL_takes_107 rfl ?_
  refine g_iconst (q := 109) B14 dL_takes_108 rfl ?_
  refine g_callN (q := 112) (m1 := 1) (c2 := 8) (As := [.ref (yA Y 72), .int (iI 5), .int (iI r), .int (iI 2), .int (iI 0)]) (st := []) B14 dL_takes_109 rfl (k_runOf (Y := Y) (S := S13) hst A13 V1.1 r ⟨by omega, by omega⟩ 2 ⟨by omega, by omega⟩ 0 (x := tt) (hx := (by rw [e1]; exact tv_own m1.1 (by rw [g1.1]; exact m1.2) g1.2))) eL_call w179 (by decide) rfl rfl (Nat.le_of_ble_eq_true rfl) (by omega) (Nat.le_trans (show 8 ≤ 40 by omega) E.2.1) (Nat.le_trans (show 6 * (8) ≤ 6 * 40 by omega) E.2.2) (fun v S15 hS15 => ?_)
  obtain ⟨rfl, A15, K15⟩ := hS15
  have D15 := PK_o2 D13 K15
  have B16 := gB_K (c := 8) B14 (Nat.le_trans (show 8 ≤ 40 by omega) E.2.1) (Nat.le_trans (show 6 * (8) ≤ 6 * 40 by omega) E.2.2)
  show gW Y (xK X (8)) S15 112 [(8, .int (iI ow)), (7, .int (iI ig)), (6, .int (iI hd)), (5, .int (iI tt)), (4, .int (iI r)), (3, .int (iI (runsF (pG P)))), (0, .ref (yA Y 72)), (1, .ref (yA Y 172)), (2, .int (iI x))] [.int (iI tt)]
  refine g_iload (q := 114) B16 dL_takes_112 rfl 3 rfl ?_
  refine g_icmp_ne (t := 181) (q := 117) B16 dL_takes_114 (by decide) rfl ⟨by omega, by omega⟩ ⟨by omega, by omega⟩ (fun cq114 => absurd cq114 (by omega)) (fun cq114 => ?_)
  refine g_aload_n (q := 118) B16 dL_takes_117 rfl 6 rfl ?_
  refine g_bipush (q := 120) B16 dL_takes_118 rfl (by decide) ?_
  refine g_iconst (q := 121) B16 dL_takes_120 rfl ?_
  refine g_iconst (q := 122) B16 dL_takes_121 rfl ?_
  refine g_iconst (q := 123) B16 dL_takes_122 rfl ?_
  refine g_callN (q := 126) (m1 := 1) (c2 := 9) (As := [.ref (yA Y 72), .int (iI 15), .int (iI 0), .int (iI 0), .int (iI 0)]) (st := []) B16 dL_takes_123 rfl (k_undo (Y := Y) (S := S15) hst A15 V1.1  0 0 0 (x := pK P1 - 1) (hx := tv_0 (cd_undo0 k1)) (P' := P2) (hP := (if_pos (cd_undo0 k1)).trans hP2)) eL_call w179 (by decide) rfl rfl (Nat.le_of_ble_eq_true rfl) (by omega) (Nat.le_trans (show 9 ≤ 40 by omega) E.2.1) (Nat.le_trans (show 6 * (9) ≤ 6 * 40 by omega) E.2.2) (fun v S17 hS17 => ?_)
  obtain ⟨rfl, A17, K17⟩ := hS17
  have D17 := PK_o2 D15 K17
  have B18 := gB_K (c := 9) B16 (Nat.le_trans (show 9 ≤ 40 by omega) E.2.1) (Nat.le_trans (show 6 * (9) ≤ 6 * 40 by omega) E.2.2)
  show gW Y (xK X (9)) S17 126 [(8, .int (iI ow)), (7, .int (iI ig)), (6, .int (iI hd)), (5, .int (iI tt)), (4, .int (iI r)), (3, .int (iI (runsF (pG P)))), (0, .ref (yA Y 72)), (1, .ref (yA Y 172)), (2, .int (iI x))] [.int (iI (pK P1 - 1))]
  refine g_callN (q := 129) (m1 := 0) (c2 := 9) (As := [.int (iI (pK P1 - 1))]) (st := []) B18 dL_takes_126 rfl (c_thrown (Y := Y) (S := S17) (pK P1 - 1) ⟨by omega, by omega⟩ (by omega)) eL_thrown w937 (by decide) rfl rfl (Nat.le_of_ble_eq_true rfl) (by omega) (Nat.le_trans (show 9 ≤ 40 by omega) E.2.1) (Nat.le_trans (show 6 * (9) ≤ 6 * 40 by omega) E.2.2) (fun v S19 hS19 => ?_)
  obtain ⟨rfl, eS19⟩ := hS19
  rw [eS19]
  show gW Y (xK X (9)) S17 129 [(8, .int (iI ow)), (7, .int (iI ig)), (6, .int (iI hd)), (5, .int (iI tt)), (4, .int (iI r)), (3, .int (iI (runsF (pG P)))), (0, .ref (yA Y 72)), (1, .ref (yA Y 172)), (2, .int (iI x))] [.int (iI 0)]
  refine g_if_ne (t := 181) (q := 132) B18 dL_takes_129 (by decide) rfl ⟨by omega, by omega⟩ (fun cq129 => absurd cq129 (by decide)) (fun cq129 => ?_)
  refine g_aload_n (q := 133) B18 dL_takes_132 rfl 7 rfl ?_
  refine g_bipush (q := 135) B18 dL_takes_133 rfl (by decide) ?_
  refine g_iconst (q := 136) B18 dL_takes_135 rfl ?_
  refine g_iconst (q := 137) B18 dL_takes_136 rfl ?_
  refine g_iconst (q := 138) B18 dL_takes_137 rfl ?_
  refine g_callN (q := 141) (m1 := 1) (c2 := 10) (As := [.ref (yA Y 172), .int (iI 15), .int (iI 0), .int (iI 0), .int (iI 0)]) (st := []) B18 dL_takes_138 rfl (gN_sw (k_undo (Y := ySw Y) (S := sS S17) hst D17 V1.1  0 0 0 (x := pK P1 - 1) (hx := tv_0 (cd_undo0 k1)) (P' := P2) (hP := (if_pos (cd_undo0 k1)).trans hP2))) eL_call w179 (by decide) rfl rfl (Nat.le_of_ble_eq_true rfl) (by omega) (Nat.le_trans (show 10 ≤ 40 by omega) E.2.1) (Nat.le_trans (show 6 * (10) ≤ 6 * 40 by omega) E.2.2) (fun v S20 hS20 => ?_)
  obtain ⟨rfl, D20, K20⟩ := hS20
  have A20 := PK_o1 A17 K20
  have B21 := gB_K (c := 10) B18 (Nat.le_trans (show 10 ≤ 40 by omega) E.2.1) (Nat.le_trans (show 6 * (10) ≤ 6 * 40 by omega) E.2.2)
  show gW Y (xK X (10)) S20 141 [(8, .int (iI ow)), (7, .int (iI ig)), (6, .int (iI hd)), (5, .int (iI tt)), (4, .int (iI r)), (3, .int (iI (runsF (pG P)))), (0, .ref (yA Y 72)), (1, .ref (yA Y 172)), (2, .int (iI x))] [.int (iI (pK P1 - 1))]
  refine g_callN (q := 144) (m1 := 0) (c2 := 10) (As := [.int (iI (pK P1 - 1))]) (st := []) B21 dL_takes_141 rfl (c_thrown (Y := Y) (S := S20) (pK P1 - 1) ⟨by omega, by omega⟩ (by omega)) eL_thrown w937 (by decide) rfl rfl (Nat.le_of_ble_eq_true rfl) (by omega) (Nat.le_trans (show 10 ≤ 40 by omega) E.2.1) (Nat.le_trans (show 6 * (10) ≤ 6 * 40 by omega) E.2.2) (fun v S22 hS22 => ?_)
  obtain ⟨rfl, eS22⟩ := hS22
  rw [eS22]
  show gW Y (xK X (10)) S20 144 [(8, .int (iI ow)), (7, .int (iI ig)), (6, .int (iI hd)), (5, .int (iI tt)), (4, .int (iI r)), (3, .int (iI (runsF (pG P)))), (0, .ref (yA Y 72)), (1, .ref (yA Y 172)), (2, .int (iI x))] [.int (iI 0)]
  refine g_if_ne (t := 181) (q := 147) B21 dL_takes_144 (by decide) rfl ⟨by omega, by omega⟩ (fun cq144 => absurd cq144 (by decide)) (fun cq144 => ?_)
  refine g_aload_n (q := 148) B21 dL_takes_147 rfl 6 rfl ?_
  refine g_iconst (q := 149) B21 dL_takes_148 rfl ?_
  refine g_iload (q := 151) B21 dL_takes_149 rfl 4 rfl ?_
  refine g_iconst (q := 152) B21 dL_takes_151 rfl ?_
  refine g_iconst (q := 153) B21 dL_takes_152 rfl ?_
  refine g_callN (q := 156) (m1 := 1) (c2 := 11) (As := [.ref (yA Y 72), .int (iI 5), .int (iI r), .int (iI 2), .int (iI 0)]) (st := []) B21 dL_takes_153 rfl (k_runOf (Y := Y) (S := S20) hst A20 V2.1 r ⟨by omega, by omega⟩ 2 ⟨by omega, by omega⟩ 0 (x := ow) (hx := (by rw [e2]; exact tv_own m1.1 m1.2 how))) eL_call w179 (by decide) rfl rfl (Nat.le_of_ble_eq_true rfl) (by omega) (Nat.le_trans (show 11 ≤ 40 by omega) E.2.1) (Nat.le_trans (show 6 * (11) ≤ 6 * 40 by omega) E.2.2) (fun v S23 hS23 => ?_)
  obtain ⟨rfl, A23, K23⟩ := hS23
  have D23 := PK_o2 D20 K23
  have B24 := gB_K (c := 11) B21 (Nat.le_trans (show 11 ≤ 40 by omega) E.2.1) (Nat.le_trans (show 6 * (11) ≤ 6 * 40 by omega) E.2.2)
  show gW Y (xK X (11)) S23 156 [(8, .int (iI ow)), (7, .int (iI ig)), (6, .int (iI hd)), (5, .int (iI tt)), (4, .int (iI r)), (3, .int (iI (runsF (pG P)))), (0, .ref (yA Y 72)), (1, .ref (yA Y 172)), (2, .int (iI x))] [.int (iI ow)]
  refine g_iload (q := 158) B24 dL_takes_156 rfl 0 rfl ?_
  refine g_icmp_ne (t := 181) (q := 161) B24 dL_takes_158 (by decide) rfl ⟨by omega, by omega⟩ ⟨by omega, by omega⟩ (fun cq158 => absurd cq158 (by omega)) (fun cq158 => ?_)
  refine g_aload_n (q := 162) B24 dL_takes_161 rfl 6 rfl ?_
  refine g_bipush (q := 164) B24 dL_takes_162 rfl (by decide) ?_
  refine g_iload (q := 166) B24 dL_takes_164 rfl 4 rfl ?_
  refine g_iload (q := 168) B24 dL_takes_166 rfl 0 rfl ?_
  refine g_iconst (q := 169) B24 dL_takes_168 rfl ?_
  refine g_callN (q := 172) (m1 := 1) (c2 := 12) (As := [.ref (yA Y 72), .int (iI 19), .int (iI r), .int (iI ow), .int (iI 0)]) (st := []) B24 dL_takes_169 rfl (k_ifGiven (Y := Y) (S := S23) hst A23 V2.1 r ⟨by omega, by omega⟩ ow ⟨by omega, by omega⟩ 0 (x := hd) (hx := (by rw [e2]; exact tv_give m1.1 m1.2 r3 (by rw [← how, give_same hw m1.1 m1.2]; exact hhd)))) eL_call w179 (by decide) rfl rfl (Nat.le_of_ble_eq_true rfl) (by omega) (Nat.le_trans (show 12 ≤ 40 by omega) E.2.1) (Nat.le_trans (show 6 * (12) ≤ 6 * 40 by omega) E.2.2) (fun v S25 hS25 => ?_)
  obtain ⟨rfl, A25, K25⟩ := hS25
  have D25 := PK_o2 D23 K25
  have B26 := gB_K (c := 12) B24 (Nat.le_trans (show 12 ≤ 40 by omega) E.2.1) (Nat.le_trans (show 6 * (12) ≤ 6 * 40 by omega) E.2.2)
  show gW Y (xK X (12)) S25 172 [(8, .int (iI ow)), (7, .int (iI ig)), (6, .int (iI hd)), (5, .int (iI tt)), (4, .int (iI r)), (3, .int (iI (runsF (pG P)))), (0, .ref (yA Y 72)), (1, .ref (yA Y 172)), (2, .int (iI x))] [.int (iI hd)]
  refine g_iload (q := 174) B26 dL_takes_172 rfl 2 rfl ?_
  refine g_icmp_ne (t := 181) (q := 177) B26 dL_takes_174 (by decide) rfl ⟨by omega, by omega⟩ ⟨by omega, by omega⟩ (fun cq174 => absurd cq174 (by omega)) (fun cq174 => ?_)
  refine g_iconst (q := 178) B26 dL_takes_177 rfl ?_
  refine g_goto (q := 182) B26 dL_takes_178 (by decide) ?_
  refine g_istore (q := 184) B26 dL_takes_182 rfl (by decide) (L' := [(9, .int (iI 1)), (8, .int (iI ow)), (7, .int (iI ig)), (6, .int (iI hd)), (5, .int (iI tt)), (4, .int (iI r)), (3, .int (iI (runsF (pG P)))), (0, .ref (yA Y 72)), (1, .ref (yA Y 172)), (2, .int (iI x))]) rfl ?_
  refine g_aload_n (q := 185) B26 dL_takes_184 rfl 7 rfl ?_
  refine g_iconst (q := 186) B26 dL_takes_185 rfl ?_
  refine g_bipush (q := 188) B26 dL_takes_186 rfl (by decide) ?_
  refine g_iconst (q := 189) B26 dL_takes_188 rfl ?_
  refine g_iconst (q := 190) B26 dL_takes_189 rfl ?_
  refine g_callN (q := 193) (m1 := 1) (c2 := 13) (As := [.ref (yA Y 72), .int (iI 2), .int (iI 6), .int (iI 0), .int (iI 0)]) (st := []) B26 dL_takes_190 rfl (k_about (Y := Y) (S := S25) hst A25 V2.1 6 ⟨by omega, by omega⟩ 0 0 (x := mv) (hx := (by rw [e2]; exact hmv))) eL_call w179 (by decide) rfl rfl (Nat.le_of_ble_eq_true rfl) (by omega) (Nat.le_trans (show 13 ≤ 40 by omega) E.2.1) (Nat.le_trans (show 6 * (13) ≤ 6 * 40 by omega) E.2.2) (fun v S27 hS27 => ?_)
  obtain ⟨rfl, A27, K27⟩ := hS27
  have D27 := PK_o2 D25 K27
  have B28 := gB_K (c := 13) B26 (Nat.le_trans (show 13 ≤ 40 by omega) E.2.1) (Nat.le_trans (show 6 * (13) ≤ 6 * 40 by omega) E.2.2)
  show gW Y (xK X (13)) S27 193 [(9, .int (iI 1)), (8, .int (iI ow)), (7, .int (iI ig)), (6, .int (iI hd)), (5, .int (iI tt)), (4, .int (iI r)), (3, .int (iI (runsF (pG P)))), (0, .ref (yA Y 72)), (1, .ref (yA Y 172)), (2, .int (iI x))] [.int (iI mv)]
  refine g_istore (q := 195) B28 dL_takes_193 rfl (by decide) (L' := [(10, .int (iI mv)), (9, .int (iI 1)), (8, .int (iI ow)), (7, .int (iI ig)), (6, .int (iI hd)), (5, .int (iI tt)), (4, .int (iI r)), (3, .int (iI (runsF (pG P)))), (0, .ref (yA Y 72)), (1, .ref (yA Y 172)), (2, .int (iI x))]) rfl ?_
  refine g_aload_n (q := 196) B28 dL_takes_195 rfl 8 rfl ?_
  refine g_callV (n := 72) (ty := tyX7) (q := 199) (As := []) (st := []) B28 dL_takes_196 rfl (k_bestRun (Y := Y) (l := xL X) (S := S27) A27 V2.1) eX7_bestRun w930 (by decide) rfl rfl cls5 rfl rfl (Nat.le_of_ble_eq_true rfl) (fun v S29 hS29 => ?_)
  obtain ⟨rfl, A29, K29⟩ := hS29
  have D29 := PK_o2 D27 K29
  show gW Y (xK X (13)) S29 199 [(10, .int (iI mv)), (9, .int (iI 1)), (8, .int (iI ow)), (7, .int (iI ig)), (6, .int (iI hd)), (5, .int (iI tt)), (4, .int (iI r)), (3, .int (iI (runsF (pG P)))), (0, .ref (yA Y 72)), (1, .ref (yA Y 172)), (2, .int (iI x))] [.int (iI ((ckG (pG P2) (runsF (pG P2)).toNat).1))]
  refine g_eqT (st' := [.int (iI bs)]) (by rw [e2, hbs]) ?_
  refine g_istore (q := 201) B28 dL_takes_199 rfl (by decide) (L' := [(11, .int (iI bs)), (10, .int (iI mv)), (9, .int (iI 1)), (8, .int (iI ow)), (7, .int (iI ig)), (6, .int (iI hd)), (5, .int (iI tt)), (4, .int (iI r)), (3, .int (iI (runsF (pG P)))), (0, .ref (yA Y 72)), (1, .ref (yA Y 172)), (2, .int (iI x))]) rfl ?_
  refine g_aload_n (q := 202) B28 dL_takes_201 rfl 9 rfl ?_
  refine g_iconst (q := 203) B28 dL_takes_202 rfl ?_
  refine g_bipush (q := 205) B28 dL_takes_203 rfl (by decide) ?_
  refine g_iconst (q := 206) B28 dL_takes_205 rfl ?_
  refine g_iconst (q := 207) B28 dL_takes_206 rfl ?_
  refine g_callN (q := 210) (m1 := 1) (c2 := 14) (As := [.ref (yA Y 72), .int (iI 2), .int (iI 8), .int (iI 0), .int (iI 0)]) (st := []) B28 dL_takes_207 rfl (k_about (Y := Y) (S := S29) hst A29 V2.1 8 ⟨by omega, by omega⟩ 0 0 (x := rf) (hx := (by rw [e2]; exact hrf))) eL_call w179 (by decide) rfl rfl (Nat.le_of_ble_eq_true rfl) (by omega) (Nat.le_trans (show 14 ≤ 40 by omega) E.2.1) (Nat.le_trans (show 6 * (14) ≤ 6 * 40 by omega) E.2.2) (fun v S30 hS30 => ?_)
  obtain ⟨rfl, A30, K30⟩ := hS30
  have D30 := PK_o2 D29 K30
  have B31 := gB_K (c := 14) B28 (Nat.le_trans (show 14 ≤ 40 by omega) E.2.1) (Nat.le_trans (show 6 * (14) ≤ 6 * 40 by omega) E.2.2)
  show gW Y (xK X (14)) S30 210 [(11, .int (iI bs)), (10, .int (iI mv)), (9, .int (iI 1)), (8, .int (iI ow)), (7, .int (iI ig)), (6, .int (iI hd)), (5, .int (iI tt)), (4, .int (iI r)), (3, .int (iI (runsF (pG P)))), (0, .ref (yA Y 72)), (1, .ref (yA Y 172)), (2, .int (iI x))] [.int (iI rf)]
  refine g_istore (q := 212) B31 dL_takes_210 rfl (by decide) (L' := [(12, .int (iI rf)), (11, .int (iI bs)), (10, .int (iI mv)), (9, .int (iI 1)), (8, .int (iI ow)), (7, .int (iI ig)), (6, .int (iI hd)), (5, .int (iI tt)), (4, .int (iI r)), (3, .int (iI (runsF (pG P)))), (0, .ref (yA Y 72)), (1, .ref (yA Y 172)), (2, .int (iI x))]) rfl ?_
  refine g_aload_n (q := 213) B31 dL_takes_212 rfl 10 rfl ?_
  refine g_bipush (q := 215) B31 dL_takes_213 rfl (by decide) ?_
  refine g_iload (q := 217) B31 dL_takes_215 rfl 8 rfl ?_
  refine g_iconst (q := 218) B31 dL_takes_217 rfl ?_
  refine g_iconst (q := 219) B31 dL_takes_218 rfl ?_
  refine g_callN (q := 222) (m1 := 1) (c2 := 15) (As := [.ref (yA Y 72), .int (iI 11), .int (iI r), .int (iI 0), .int (iI 0)]) (st := []) B31 dL_takes_219 rfl (k_take (Y := Y) (S := S30) hst A30 V2.1 r ⟨by omega, by omega⟩ 0 0 (x := wy) (hx := (by rw [e2]; exact (tv_0 (cd_take0 m1.1 m1.2)).trans hwy)) (P' := P3) (hP := (by rw [e2]; exact (if_pos (cd_take0 m1.1 m1.2)).trans hP3))) eL_call w179 (by decide) rfl rfl (Nat.le_of_ble_eq_true rfl) (by omega) (Nat.le_trans (show 15 ≤ 40 by omega) E.2.1) (Nat.le_trans (show 6 * (15) ≤ 6 * 40 by omega) E.2.2) (fun v S32 hS32 => ?_)
  obtain ⟨rfl, A32, K32⟩ := hS32
  have D32 := PK_o2 D30 K32
  have B33 := gB_K (c := 15) B31 (Nat.le_trans (show 15 ≤ 40 by omega) E.2.1) (Nat.le_trans (show 6 * (15) ≤ 6 * 40 by omega) E.2.2)
  show gW Y (xK X (15)) S32 222 [(12, .int (iI rf)), (11, .int (iI bs)), (10, .int (iI mv)), (9, .int (iI 1)), (8, .int (iI ow)), (7, .int (iI ig)), (6, .int (iI hd)), (5, .int (iI tt)), (4, .int (iI r)), (3, .int (iI (runsF (pG P)))), (0, .ref (yA Y 72)), (1, .ref (yA Y 172)), (2, .int (iI x))] [.int (iI wy)]
  refine g_istore (q := 224) B33 dL_takes_222 rfl (by decide) (L' := [(13, .int (iI wy)), (12, .int (iI rf)), (11, .int (iI bs)), (10, .int (iI mv)), (9, .int (iI 1)), (8, .int (iI ow)), (7, .int (iI ig)), (6, .int (iI hd)), (5, .int (iI tt)), (4, .int (iI r)), (3, .int (iI (runsF (pG P)))), (0, .ref (yA Y 72)), (1, .ref (yA Y 172)), (2, .int (iI x))]) rfl ?_
  refine g_iload (q := 226) B33 dL_takes_224 rfl 4 rfl ?_
  refine g_if_eq (t := 350) (q := 229) B33 dL_takes_226 (by decide) rfl ⟨by omega, by omega⟩ (fun cq226 => absurd cq226 (by decide)) (fun cq226 => ?_)
  refine g_aload_n (q := 230) B33 dL_takes_229 rfl 12 rfl ?_
  refine g_bipush (q := 232) B33 dL_takes_230 rfl (by decide) ?_
  refine g_iload (q := 234) B33 dL_takes_232 rfl 9 rfl ?_
  refine g_iconst (q := 235) B33 dL_takes_234 rfl ?_
  refine g_iconst (q := 236) B33 dL_takes_235 rfl ?_
  refine g_callN (q := 239) (m1 := 1) (c2 := 16) (As := [.ref (yA Y 172), .int (iI 11), .int (iI r), .int (iI 0), .int (iI 0)]) (st := []) B33 dL_takes_236 rfl (gN_sw (k_take (Y := ySw Y) (S := sS S32) hst D32 V2.1 r ⟨by omega, by omega⟩ 0 0 (x := wy) (hx := (by rw [e2]; exact (tv_0 (cd_take0 m1.1 m1.2)).trans hwy)) (P' := P3) (hP := (by rw [e2]; exact (if_pos (cd_take0 m1.1 m1.2)).trans hP3)))) eL_call w179 (by decide) rfl rfl (Nat.le_of_ble_eq_true rfl) (by omega) (Nat.le_trans (show 16 ≤ 40 by omega) E.2.1) (Nat.le_trans (show 6 * (16) ≤ 6 * 40 by omega) E.2.2) (fun v S34 hS34 => ?_)
  obtain ⟨rfl, D34, K34⟩ := hS34
  have A34 := PK_o1 A32 K34
  have B35 := gB_K (c := 16) B33 (Nat.le_trans (show 16 ≤ 40 by omega) E.2.1) (Nat.le_trans (show 6 * (16) ≤ 6 * 40 by omega) E.2.2)
  show gW Y (xK X (16)) S34 239 [(13, .int (iI wy)), (12, .int (iI rf)), (11, .int (iI bs)), (10, .int (iI mv)), (9, .int (iI 1)), (8, .int (iI ow)), (7, .int (iI ig)), (6, .int (iI hd)), (5, .int (iI tt)), (4, .int (iI r)), (3, .int (iI (runsF (pG P)))), (0, .ref (yA Y 72)), (1, .ref (yA Y 172)), (2, .int (iI x))] [.int (iI wy)]
  refine g_iload (q := 241) B35 dL_takes_239 rfl 0 rfl ?_
  refine g_icmp_ne (t := 350) (q := 244) B35 dL_takes_241 (by decide) rfl ⟨by omega, by omega⟩ ⟨by omega, by omega⟩ (fun cq241 => absurd cq241 (by omega)) (fun cq241 => ?_)
  refine g_iload (q := 246) B35 dL_takes_244 rfl 0 rfl ?_
  refine g_iload (q := 248) B35 dL_takes_246 rfl 5 rfl ?_
  refine g_iconst (q := 249) B35 dL_takes_248 rfl ?_
  refine g_icmp_ne (t := 256) (q := 252) B35 dL_takes_249 (by decide) rfl ⟨by omega, by omega⟩ ⟨by omega, by omega⟩ (fun cq249 => ?_) (fun cq249 => ?_)
  · refine g_iload (q := 258) B35 dL_takes_256 rfl 5 rfl ?_
    refine g_iload (q := 260) B35 dL_takes_258 rfl 3 rfl ?_
    refine g_icmp_ne (t := 267) (q := 263) B35 dL_takes_260 (by decide) rfl ⟨by omega, by omega⟩ ⟨by omega, by omega⟩ (fun cq260 => ?_) (fun cq260 => ?_)
    · have hy0 : ¬ wy = 0 := by omega
      have tyy := tn hy0
      refine g_iconst (q := 268) B35 dL_takes_267 rfl ?_
      refine g_icmp_ne (t := 350) (q := 271) B35 dL_takes_268 (by decide) rfl ⟨by omega, by omega⟩ ⟨by omega, by omega⟩ (fun cq268 => absurd cq268 (by omega)) (fun cq268 => ?_)
      refine g_aload_n (q := 272) B35 dL_takes_271 rfl 11 rfl ?_
      refine g_iconst (q := 273) B35 dL_takes_272 rfl ?_
      refine g_bipush (q := 275) B35 dL_takes_273 rfl (by decide) ?_
      refine g_iconst (q := 276) B35 dL_takes_275 rfl ?_
      refine g_iconst (q := 277) B35 dL_takes_276 rfl ?_
      refine g_callN (q := 280) (m1 := 1) (c2 := 17) (As := [.ref (yA Y 72), .int (iI 2), .int (iI 6), .int (iI 0), .int (iI 0)]) (st := []) B35 dL_takes_277 rfl (k_about (Y := Y) (S := S34) hst A34 V3.1 6 ⟨by omega, by omega⟩ 0 0 (x := t2) (hx := (by rw [e3]; exact ht2))) eL_call w179 (by decide) rfl rfl (Nat.le_of_ble_eq_true rfl) (by omega) (Nat.le_trans (show 17 ≤ 40 by omega) E.2.1) (Nat.le_trans (show 6 * (17) ≤ 6 * 40 by omega) E.2.2) (fun v S36 hS36 => ?_)
      obtain ⟨rfl, A36, K36⟩ := hS36
      have D36 := PK_o2 D34 K36
      have B37 := gB_K (c := 17) B35 (Nat.le_trans (show 17 ≤ 40 by omega) E.2.1) (Nat.le_trans (show 6 * (17) ≤ 6 * 40 by omega) E.2.2)
      show gW Y (xK X (17)) S36 280 [(13, .int (iI wy)), (12, .int (iI rf)), (11, .int (iI bs)), (10, .int (iI mv)), (9, .int (iI 1)), (8, .int (iI ow)), (7, .int (iI ig)), (6, .int (iI hd)), (5, .int (iI tt)), (4, .int (iI r)), (3, .int (iI (runsF (pG P)))), (0, .ref (yA Y 72)), (1, .ref (yA Y 172)), (2, .int (iI x))] [.int (iI t2)]
      refine g_iload (q := 282) B37 dL_takes_280 rfl 0 rfl ?_
      refine g_if_ne (t := 292) (q := 285) B37 dL_takes_282 (by decide) rfl ⟨by omega, by omega⟩ (fun cq282 => ?_) (fun cq282 => absurd cq282 (by omega))
      refine g_iload (q := 294) B37 dL_takes_292 rfl 3 rfl ?_
      refine g_icmp_ne (t := 350) (q := 297) B37 dL_takes_294 (by decide) rfl ⟨by omega, by omega⟩ ⟨by omega, by omega⟩ (fun cq294 => absurd cq294 (by omega)) (fun cq294 => ?_)
      refine g_aload_n (q := 298) B37 dL_takes_297 rfl 11 rfl ?_
      refine g_iconst (q := 299) B37 dL_takes_298 rfl ?_
      refine g_bipush (q := 301) B37 dL_takes_299 rfl (by decide) ?_
      refine g_iconst (q := 302) B37 dL_takes_301 rfl ?_
      refine g_iconst (q := 303) B37 dL_takes_302 rfl ?_
      refine g_callN (q := 306) (m1 := 1) (c2 := 18) (As := [.ref (yA Y 72), .int (iI 2), .int (iI 8), .int (iI 0), .int (iI 0)]) (st := []) B37 dL_takes_303 rfl (k_about (Y := Y) (S := S36) hst A36 V3.1 8 ⟨by omega, by omega⟩ 0 0 (x := t3) (hx := (by rw [e3]; exact ht3))) eL_call w179 (by decide) rfl rfl (Nat.le_of_ble_eq_true rfl) (by omega) (Nat.le_trans (show 18 ≤ 40 by omega) E.2.1) (Nat.le_trans (show 6 * (18) ≤ 6 * 40 by omega) E.2.2) (fun v S38 hS38 => ?_)
      obtain ⟨rfl, A38, K38⟩ := hS38
      have D38 := PK_o2 D36 K38
      have B39 := gB_K (c := 18) B37 (Nat.le_trans (show 18 ≤ 40 by omega) E.2.1) (Nat.le_trans (show 6 * (18) ≤ 6 * 40 by omega) E.2.2)
      show gW Y (xK X (18)) S38 306 [(13, .int (iI wy)), (12, .int (iI rf)), (11, .int (iI bs)), (10, .int (iI mv)), (9, .int (iI 1)), (8, .int (iI ow)), (7, .int (iI ig)), (6, .int (iI hd)), (5, .int (iI tt)), (4, .int (iI r)), (3, .int (iI (runsF (pG P)))), (0, .ref (yA Y 72)), (1, .ref (yA Y 172)), (2, .int (iI x))] [.int (iI t3)]
      refine g_iload (q := 308) B39 dL_takes_306 rfl 1 rfl ?_
      refine g_iload (q := 310) B39 dL_takes_308 rfl 0 rfl ?_
      refine g_if_ne (t := 317) (q := 313) B39 dL_takes_310 (by decide) rfl ⟨by omega, by omega⟩ (fun cq310 => ?_) (fun cq310 => absurd cq310 (by omega))
      refine g_iconst (q := 318) B39 dL_takes_317 rfl ?_
      refine g_iadd (q := 319) B39 dL_takes_318 rfl ?_
      refine g_eqT (st' := [.int (iI (oI (rf + 1))), .int (iI (oI t3))]) (by rw [oI_iI, oI_iI]) ?_
      refine g_icmp_ne (t := 350) (q := 322) B39 dL_takes_319 (by decide) rfl (oI_in _) (oI_in _) (fun cq319 => absurd cq319 (by exact fun z => z (congrArg oI (by omega)))) (fun cq319 => ?_)
      refine g_aload_n (q := 323) B39 dL_takes_322 rfl 11 rfl ?_
      refine g_iconst (q := 324) B39 dL_takes_323 rfl ?_
      refine g_iload (q := 326) B39 dL_takes_324 rfl 9 rfl ?_
      refine g_iconst (q := 327) B39 dL_takes_326 rfl ?_
      refine g_iconst (q := 328) B39 dL_takes_327 rfl ?_
      refine g_callN (q := 331) (m1 := 1) (c2 := 19) (As := [.ref (yA Y 72), .int (iI 5), .int (iI r), .int (iI 2), .int (iI 0)]) (st := []) B39 dL_takes_328 rfl (k_runOf (Y := Y) (S := S38) hst A38 V3.1 r ⟨by omega, by omega⟩ 2 ⟨by omega, by omega⟩ 0 (x := t8) (hx := (by rw [e3]; exact tv_own m1.1 (by rw [ht9, q9]; exact m1.2) ht8))) eL_call w179 (by decide) rfl rfl (Nat.le_of_ble_eq_true rfl) (by omega) (Nat.le_trans (show 19 ≤ 40 by omega) E.2.1) (Nat.le_trans (show 6 * (19) ≤ 6 * 40 by omega) E.2.2) (fun v S40 hS40 => ?_)
      obtain ⟨rfl, A40, K40⟩ := hS40
      have D40 := PK_o2 D38 K40
      have B41 := gB_K (c := 19) B39 (Nat.le_trans (show 19 ≤ 40 by omega) E.2.1) (Nat.le_trans (show 6 * (19) ≤ 6 * 40 by omega) E.2.2)
      show gW Y (xK X (19)) S40 331 [(13, .int (iI wy)), (12, .int (iI rf)), (11, .int (iI bs)), (10, .int (iI mv)), (9, .int (iI 1)), (8, .int (iI ow)), (7, .int (iI ig)), (6, .int (iI hd)), (5, .int (iI tt)), (4, .int (iI r)), (3, .int (iI (runsF (pG P)))), (0, .ref (yA Y 72)), (1, .ref (yA Y 172)), (2, .int (iI x))] [.int (iI t8)]
      refine g_iload (q := 333) B41 dL_takes_331 rfl 0 rfl ?_
      refine g_if_ne (t := 341) (q := 336) B41 dL_takes_333 (by decide) rfl ⟨by omega, by omega⟩ (fun cq333 => ?_) (fun cq333 => absurd cq333 (by omega))
      refine g_iload (q := 343) B41 dL_takes_341 rfl 5 rfl ?_
      refine g_icmp_ne (t := 350) (q := 346) B41 dL_takes_343 (by decide) rfl ⟨by omega, by omega⟩ ⟨by omega, by omega⟩ (fun cq343 => absurd cq343 (by omega)) (fun cq343 => ?_)
      refine g_iconst (q := 347) B41 dL_takes_346 rfl ?_
      refine g_goto (q := 351) B41 dL_takes_347 (by decide) ?_
      refine g_istore (q := 353) B41 dL_takes_351 rfl (by decide) (L' := [(9, .int (iI 1)), (13, .int (iI wy)), (12, .int (iI rf)), (11, .int (iI bs)), (10, .int (iI mv)), (8, .int (iI ow)), (7, .int (iI ig)), (6, .int (iI hd)), (5, .int (iI tt)), (4, .int (iI r)), (3, .int (iI (runsF (pG P)))), (0, .ref (yA Y 72)), (1, .ref (yA Y 172)), (2, .int (iI x))]) rfl ?_
      refine g_aload_n (q := 354) B41 dL_takes_353 rfl 11 rfl ?_
      refine g_iconst (q := 355) B41 dL_takes_354 rfl ?_
      refine g_iconst (q := 356) B41 dL_takes_355 rfl ?_
      refine g_iconst (q := 357) B41 dL_takes_356 rfl ?_
      refine g_iconst (q := 358) B41 dL_takes_357 rfl ?_
      refine g_callN (q := 361) (m1 := 1) (c2 := 20) (As := [.ref (yA Y 72), .int (iI 2), .int (iI 4), .int (iI 0), .int (iI 0)]) (st := []) B41 dL_takes_358 rfl (k_about (Y := Y) (S := S40) hst A40 V3.1 4 ⟨by omega, by omega⟩ 0 0 (x := gp) (hx := (by rw [e3]; exact hgp))) eL_call w179 (by decide) rfl rfl (Nat.le_of_ble_eq_true rfl) (by omega) (Nat.le_trans (show 20 ≤ 40 by omega) E.2.1) (Nat.le_trans (show 6 * (20) ≤ 6 * 40 by omega) E.2.2) (fun v S42 hS42 => ?_)
      obtain ⟨rfl, A42, K42⟩ := hS42
      have D42 := PK_o2 D40 K42
      have B43 := gB_K (c := 20) B41 (Nat.le_trans (show 20 ≤ 40 by omega) E.2.1) (Nat.le_trans (show 6 * (20) ≤ 6 * 40 by omega) E.2.2)
      show gW Y (xK X (20)) S42 361 [(9, .int (iI 1)), (13, .int (iI wy)), (12, .int (iI rf)), (11, .int (iI bs)), (10, .int (iI mv)), (8, .int (iI ow)), (7, .int (iI ig)), (6, .int (iI hd)), (5, .int (iI tt)), (4, .int (iI r)), (3, .int (iI (runsF (pG P)))), (0, .ref (yA Y 72)), (1, .ref (yA Y 172)), (2, .int (iI x))] [.int (iI gp)]
      refine g_istore (q := 363) B43 dL_takes_361 rfl (by decide) (L' := [(14, .int (iI gp)), (9, .int (iI 1)), (13, .int (iI wy)), (12, .int (iI rf)), (11, .int (iI bs)), (10, .int (iI mv)), (8, .int (iI ow)), (7, .int (iI ig)), (6, .int (iI hd)), (5, .int (iI tt)), (4, .int (iI r)), (3, .int (iI (runsF (pG P)))), (0, .ref (yA Y 72)), (1, .ref (yA Y 172)), (2, .int (iI x))]) rfl ?_
      refine g_iload (q := 365) B43 dL_takes_363 rfl 1 rfl ?_
      refine g_if_eq (t := 433) (q := 368) B43 dL_takes_365 (by decide) rfl ⟨by omega, by omega⟩ (fun cq365 => absurd cq365 (by decide)) (fun cq365 => ?_)
      refine g_aload_n (q := 369) B43 dL_takes_368 rfl 12 rfl ?_
      refine g_bipush (q := 371) B43 dL_takes_369 rfl (by decide) ?_
      refine g_iconst (q := 372) B43 dL_takes_371 rfl ?_
      refine g_iconst (q := 373) B43 dL_takes_372 rfl ?_
      refine g_iconst (q := 374) B43 dL_takes_373 rfl ?_
      refine g_callN (q := 377) (m1 := 1) (c2 := 21) (As := [.ref (yA Y 72), .int (iI 15), .int (iI 0), .int (iI 0), .int (iI 0)]) (st := []) B43 dL_takes_374 rfl (k_undo (Y := Y) (S := S42) hst A42 V3.1  0 0 0 (x := pK P3 - 1) (hx := tv_0 (cd_undo0 k3)) (P' := P4) (hP := (if_pos (cd_undo0 k3)).trans hP4)) eL_call w179 (by decide) rfl rfl (Nat.le_of_ble_eq_true rfl) (by omega) (Nat.le_trans (show 21 ≤ 40 by omega) E.2.1) (Nat.le_trans (show 6 * (21) ≤ 6 * 40 by omega) E.2.2) (fun v S44 hS44 => ?_)
      obtain ⟨rfl, A44, K44⟩ := hS44
      have D44 := PK_o2 D42 K44
      have B45 := gB_K (c := 21) B43 (Nat.le_trans (show 21 ≤ 40 by omega) E.2.1) (Nat.le_trans (show 6 * (21) ≤ 6 * 40 by omega) E.2.2)
      show gW Y (xK X (21)) S44 377 [(14, .int (iI gp)), (9, .int (iI 1)), (13, .int (iI wy)), (12, .int (iI rf)), (11, .int (iI bs)), (10, .int (iI mv)), (8, .int (iI ow)), (7, .int (iI ig)), (6, .int (iI hd)), (5, .int (iI tt)), (4, .int (iI r)), (3, .int (iI (runsF (pG P)))), (0, .ref (yA Y 72)), (1, .ref (yA Y 172)), (2, .int (iI x))] [.int (iI (pK P3 - 1))]
      refine g_callN (q := 380) (m1 := 0) (c2 := 21) (As := [.int (iI (pK P3 - 1))]) (st := []) B45 dL_takes_377 rfl (c_thrown (Y := Y) (S := S44) (pK P3 - 1) ⟨by omega, by omega⟩ (by omega)) eL_thrown w937 (by decide) rfl rfl (Nat.le_of_ble_eq_true rfl) (by omega) (Nat.le_trans (show 21 ≤ 40 by omega) E.2.1) (Nat.le_trans (show 6 * (21) ≤ 6 * 40 by omega) E.2.2) (fun v S46 hS46 => ?_)
      obtain ⟨rfl, eS46⟩ := hS46
      rw [eS46]
      show gW Y (xK X (21)) S44 380 [(14, .int (iI gp)), (9, .int (iI 1)), (13, .int (iI wy)), (12, .int (iI rf)), (11, .int (iI bs)), (10, .int (iI mv)), (8, .int (iI ow)), (7, .int (iI ig)), (6, .int (iI hd)), (5, .int (iI tt)), (4, .int (iI r)), (3, .int (iI (runsF (pG P)))), (0, .ref (yA Y 72)), (1, .ref (yA Y 172)), (2, .int (iI x))] [.int (iI 0)]
      refine g_if_ne (t := 433) (q := 383) B45 dL_takes_380 (by decide) rfl ⟨by omega, by omega⟩ (fun cq380 => absurd cq380 (by decide)) (fun cq380 => ?_)
      refine g_aload_n (q := 384) B45 dL_takes_383 rfl 13 rfl ?_
      refine g_bipush (q := 386) B45 dL_takes_384 rfl (by decide) ?_
      refine g_iconst (q := 387) B45 dL_takes_386 rfl ?_
      refine g_iconst (q := 388) B45 dL_takes_387 rfl ?_
      refine g_iconst (q := 389) B45 dL_takes_388 rfl ?_
      refine g_callN (q := 392) (m1 := 1) (c2 := 22) (As := [.ref (yA Y 172), .int (iI 15), .int (iI 0), .int (iI 0), .int (iI 0)]) (st := []) B45 dL_takes_389 rfl (gN_sw (k_undo (Y := ySw Y) (S := sS S44) hst D44 V3.1  0 0 0 (x := pK P3 - 1) (hx := tv_0 (cd_undo0 k3)) (P' := P4) (hP := (if_pos (cd_undo0 k3)).trans hP4))) eL_call w179 (by decide) rfl rfl (Nat.le_of_ble_eq_true rfl) (by omega) (Nat.le_trans (show 22 ≤ 40 by omega) E.2.1) (Nat.le_trans (show 6 * (22) ≤ 6 * 40 by omega) E.2.2) (fun v S47 hS47 => ?_)
      obtain ⟨rfl, D47, K47⟩ := hS47
      have A47 := PK_o1 A44 K47
      have B48 := gB_K (c := 22) B45 (Nat.le_trans (show 22 ≤ 40 by omega) E.2.1) (Nat.le_trans (show 6 * (22) ≤ 6 * 40 by omega) E.2.2)
      show gW Y (xK X (22)) S47 392 [(14, .int (iI gp)), (9, .int (iI 1)), (13, .int (iI wy)), (12, .int (iI rf)), (11, .int (iI bs)), (10, .int (iI mv)), (8, .int (iI ow)), (7, .int (iI ig)), (6, .int (iI hd)), (5, .int (iI tt)), (4, .int (iI r)), (3, .int (iI (runsF (pG P)))), (0, .ref (yA Y 72)), (1, .ref (yA Y 172)), (2, .int (iI x))] [.int (iI (pK P3 - 1))]
      refine g_callN (q := 395) (m1 := 0) (c2 := 22) (As := [.int (iI (pK P3 - 1))]) (st := []) B48 dL_takes_392 rfl (c_thrown (Y := Y) (S := S47) (pK P3 - 1) ⟨by omega, by omega⟩ (by omega)) eL_thrown w937 (by decide) rfl rfl (Nat.le_of_ble_eq_true rfl) (by omega) (Nat.le_trans (show 22 ≤ 40 by omega) E.2.1) (Nat.le_trans (show 6 * (22) ≤ 6 * 40 by omega) E.2.2) (fun v S49 hS49 => ?_)
      obtain ⟨rfl, eS49⟩ := hS49
      rw [eS49]
      show gW Y (xK X (22)) S47 395 [(14, .int (iI gp)), (9, .int (iI 1)), (13, .int (iI wy)), (12, .int (iI rf)), (11, .int (iI bs)), (10, .int (iI mv)), (8, .int (iI ow)), (7, .int (iI ig)), (6, .int (iI hd)), (5, .int (iI tt)), (4, .int (iI r)), (3, .int (iI (runsF (pG P)))), (0, .ref (yA Y 72)), (1, .ref (yA Y 172)), (2, .int (iI x))] [.int (iI 0)]
      refine g_if_ne (t := 433) (q := 398) B48 dL_takes_395 (by decide) rfl ⟨by omega, by omega⟩ (fun cq395 => absurd cq395 (by decide)) (fun cq395 => ?_)
      refine g_iload (q := 400) B48 dL_takes_398 rfl 4 rfl ?_
      refine g_iconst (q := 401) B48 dL_takes_400 rfl ?_
      refine g_icmp_ne (t := 408) (q := 404) B48 dL_takes_401 (by decide) rfl ⟨by omega, by omega⟩ ⟨by omega, by omega⟩ (fun cq401 => ?_) (fun cq401 => ?_)
      · have hbz : bs ≠ -1 := by omega
        have brz := br hbz
        refine g_iconst (q := 409) B48 dL_takes_408 rfl ?_
        refine g_aload_n (q := 410) B48 dL_takes_409 rfl 12 rfl ?_
        refine g_iconst (q := 411) B48 dL_takes_410 rfl ?_
        refine g_bipush (q := 413) B48 dL_takes_411 rfl (by decide) ?_
        refine g_iconst (q := 414) B48 dL_takes_413 rfl ?_
        refine g_iconst (q := 415) B48 dL_takes_414 rfl ?_
        refine g_callN (q := 418) (m1 := 1) (c2 := 23) (As := [.ref (yA Y 72), .int (iI 2), .int (iI 7), .int (iI 0), .int (iI 0)]) (st := [.int (iI 0)]) B48 dL_takes_415 rfl (k_about (Y := Y) (S := S47) hst A47 V4.1 7 ⟨by omega, by omega⟩ 0 0 (x := nb) (hx := (by rw [e4]; exact hnb))) eL_call w179 (by decide) rfl rfl (Nat.le_of_ble_eq_true rfl) (by omega) (Nat.le_trans (show 23 ≤ 40 by omega) E.2.1) (Nat.le_trans (show 6 * (23) ≤ 6 * 40 by omega) E.2.2) (fun v S50 hS50 => ?_)
        obtain ⟨rfl, A50, K50⟩ := hS50
        have D50 := PK_o2 D47 K50
        have B51 := gB_K (c := 23) B48 (Nat.le_trans (show 23 ≤ 40 by omega) E.2.1) (Nat.le_trans (show 6 * (23) ≤ 6 * 40 by omega) E.2.2)
        show gW Y (xK X (23)) S50 418 [(14, .int (iI gp)), (9, .int (iI 1)), (13, .int (iI wy)), (12, .int (iI rf)), (11, .int (iI bs)), (10, .int (iI mv)), (8, .int (iI ow)), (7, .int (iI ig)), (6, .int (iI hd)), (5, .int (iI tt)), (4, .int (iI r)), (3, .int (iI (runsF (pG P)))), (0, .ref (yA Y 72)), (1, .ref (yA Y 172)), (2, .int (iI x))] [.int (iI nb), .int (iI 0)]
        refine g_if_ne (t := 425) (q := 421) B51 dL_takes_418 (by decide) rfl ⟨by omega, by omega⟩ (fun cq418 => ?_) (fun cq418 => absurd cq418 (by omega))
        refine g_iconst (q := 426) B51 dL_takes_425 rfl ?_
        refine g_icmp_ne (t := 433) (q := 429) B51 dL_takes_426 (by decide) rfl ⟨by omega, by omega⟩ ⟨by omega, by omega⟩ (fun cq426 => absurd cq426 (by decide)) (fun cq426 => ?_)
        refine g_iconst (q := 430) B51 dL_takes_429 rfl ?_
        refine g_goto (q := 434) B51 dL_takes_430 (by decide) ?_
        refine g_istore (q := 436) B51 dL_takes_434 rfl (by decide) (L' := [(9, .int (iI 1)), (14, .int (iI gp)), (13, .int (iI wy)), (12, .int (iI rf)), (11, .int (iI bs)), (10, .int (iI mv)), (8, .int (iI ow)), (7, .int (iI ig)), (6, .int (iI hd)), (5, .int (iI tt)), (4, .int (iI r)), (3, .int (iI (runsF (pG P)))), (0, .ref (yA Y 72)), (1, .ref (yA Y 172)), (2, .int (iI x))]) rfl ?_
        refine g_iload (q := 438) B51 dL_takes_436 rfl 4 rfl ?_
        refine g_iconst (q := 439) B51 dL_takes_438 rfl ?_
        refine g_icmp_eq (t := 506) (q := 442) B51 dL_takes_439 (by decide) rfl ⟨by omega, by omega⟩ ⟨by omega, by omega⟩ (fun cq439 => absurd cq439 (by omega)) (fun cq439 => ?_)
        refine g_iload (q := 444) B51 dL_takes_442 rfl 0 rfl ?_
        refine g_if_eq (t := 506) (q := 447) B51 dL_takes_444 (by decide) rfl ⟨by omega, by omega⟩ (fun cq444 => absurd cq444 (by decide)) (fun cq444 => ?_)
        refine g_aload_n (q := 448) B51 dL_takes_447 rfl 12 rfl ?_
        refine g_bipush (q := 450) B51 dL_takes_448 rfl (by decide) ?_
        refine g_iload (q := 452) B51 dL_takes_450 rfl 4 rfl ?_
        refine g_iload (q := 454) B51 dL_takes_452 rfl 5 rfl ?_
        refine g_iconst (q := 455) B51 dL_takes_454 rfl ?_
        refine g_callN (q := 458) (m1 := 1) (c2 := 24) (As := [.ref (yA Y 72), .int (iI 19), .int (iI bs), .int (iI mv), .int (iI 0)]) (st := []) B51 dL_takes_455 rfl (k_ifGiven (Y := Y) (S := S50) hst A50 V4.1 bs ⟨by omega, by omega⟩ mv ⟨by omega, by omega⟩ 0 (x := ls) (hx := (by rw [e4]; exact tv_give (br hbz).1.1 (br hbz).1.2 (by omega) (by rw [← hmv]; exact hls)))) eL_call w179 (by decide) rfl rfl (Nat.le_of_ble_eq_true rfl) (by omega) (Nat.le_trans (show 24 ≤ 40 by omega) E.2.1) (Nat.le_trans (show 6 * (24) ≤ 6 * 40 by omega) E.2.2) (fun v S52 hS52 => ?_)
        obtain ⟨rfl, A52, K52⟩ := hS52
        have D52 := PK_o2 D50 K52
        have B53 := gB_K (c := 24) B51 (Nat.le_trans (show 24 ≤ 40 by omega) E.2.1) (Nat.le_trans (show 6 * (24) ≤ 6 * 40 by omega) E.2.2)
        show gW Y (xK X (24)) S52 458 [(9, .int (iI 1)), (14, .int (iI gp)), (13, .int (iI wy)), (12, .int (iI rf)), (11, .int (iI bs)), (10, .int (iI mv)), (8, .int (iI ow)), (7, .int (iI ig)), (6, .int (iI hd)), (5, .int (iI tt)), (4, .int (iI r)), (3, .int (iI (runsF (pG P)))), (0, .ref (yA Y 72)), (1, .ref (yA Y 172)), (2, .int (iI x))] [.int (iI ls)]
        refine g_istore (q := 460) B53 dL_takes_458 rfl (by decide) (L' := [(15, .int (iI ls)), (9, .int (iI 1)), (14, .int (iI gp)), (13, .int (iI wy)), (12, .int (iI rf)), (11, .int (iI bs)), (10, .int (iI mv)), (8, .int (iI ow)), (7, .int (iI ig)), (6, .int (iI hd)), (5, .int (iI tt)), (4, .int (iI r)), (3, .int (iI (runsF (pG P)))), (0, .ref (yA Y 72)), (1, .ref (yA Y 172)), (2, .int (iI x))]) rfl ?_
        refine g_aload_n (q := 461) B53 dL_takes_460 rfl 13 rfl ?_
        refine g_iconst (q := 462) B53 dL_takes_461 rfl ?_
        refine g_iload (q := 464) B53 dL_takes_462 rfl 5 rfl ?_
        refine g_iconst (q := 465) B53 dL_takes_464 rfl ?_
        refine g_iconst (q := 466) B53 dL_takes_465 rfl ?_
        refine g_callN (q := 469) (m1 := 1) (c2 := 25) (As := [.ref (yA Y 72), .int (iI 5), .int (iI bs), .int (iI 2), .int (iI 0)]) (st := []) B53 dL_takes_466 rfl (k_runOf (Y := Y) (S := S52) hst A52 V4.1 bs ⟨by omega, by omega⟩ 2 ⟨by omega, by omega⟩ 0 (x := (-1)) (hx := (by rw [e4]; exact tv_own (br hbz).1.1 (br hbz).1.2 (br hbz).2.1))) eL_call w179 (by decide) rfl rfl (Nat.le_of_ble_eq_true rfl) (by omega) (Nat.le_trans (show 25 ≤ 40 by omega) E.2.1) (Nat.le_trans (show 6 * (25) ≤ 6 * 40 by omega) E.2.2) (fun v S54 hS54 => ?_)
        obtain ⟨rfl, A54, K54⟩ := hS54
        have D54 := PK_o2 D52 K54
        have B55 := gB_K (c := 25) B53 (Nat.le_trans (show 25 ≤ 40 by omega) E.2.1) (Nat.le_trans (show 6 * (25) ≤ 6 * 40 by omega) E.2.2)
        show gW Y (xK X (25)) S54 469 [(15, .int (iI ls)), (9, .int (iI 1)), (14, .int (iI gp)), (13, .int (iI wy)), (12, .int (iI rf)), (11, .int (iI bs)), (10, .int (iI mv)), (8, .int (iI ow)), (7, .int (iI ig)), (6, .int (iI hd)), (5, .int (iI tt)), (4, .int (iI r)), (3, .int (iI (runsF (pG P)))), (0, .ref (yA Y 72)), (1, .ref (yA Y 172)), (2, .int (iI x))] [.int (iI ((-1)))]
        refine g_iconst (q := 470) B55 dL_takes_469 rfl ?_
        refine g_icmp_ne (t := 503) (q := 473) B55 dL_takes_470 (by decide) rfl ⟨by omega, by omega⟩ ⟨by omega, by omega⟩ (fun cq470 => absurd cq470 (by decide)) (fun cq470 => ?_)
        refine g_iload (q := 475) B55 dL_takes_473 rfl 3 rfl ?_
        refine g_if_gt (t := 499) (q := 478) B55 dL_takes_475 (by decide) rfl ⟨by omega, by omega⟩ (fun cq475 => ?_) (fun cq475 => absurd cq475 (by omega))
        refine g_iconst (q := 500) B55 dL_takes_499 rfl ?_
        refine g_goto (q := 504) B55 dL_takes_500 (by decide) ?_
        refine g_istore (q := 506) B55 dL_takes_504 rfl (by decide) (L' := [(9, .int (iI 1)), (15, .int (iI ls)), (14, .int (iI gp)), (13, .int (iI wy)), (12, .int (iI rf)), (11, .int (iI bs)), (10, .int (iI mv)), (8, .int (iI ow)), (7, .int (iI ig)), (6, .int (iI hd)), (5, .int (iI tt)), (4, .int (iI r)), (3, .int (iI (runsF (pG P)))), (0, .ref (yA Y 72)), (1, .ref (yA Y 172)), (2, .int (iI x))]) rfl ?_
        refine g_iload (q := 508) B55 dL_takes_506 rfl 0 rfl ?_
        refine g_if_eq (t := 542) (q := 511) B55 dL_takes_508 (by decide) rfl ⟨by omega, by omega⟩ (fun cq508 => absurd cq508 (by decide)) (fun cq508 => ?_)
        refine g_aload_n (q := 512) B55 dL_takes_511 rfl 13 rfl ?_
        refine g_iconst (q := 513) B55 dL_takes_512 rfl ?_
        refine g_bipush (q := 515) B55 dL_takes_513 rfl (by decide) ?_
        refine g_iconst (q := 516) B55 dL_takes_515 rfl ?_
        refine g_iconst (q := 517) B55 dL_takes_516 rfl ?_
        refine g_callN (q := 520) (m1 := 1) (c2 := 26) (As := [.ref (yA Y 72), .int (iI 2), .int (iI 6), .int (iI 0), .int (iI 0)]) (st := []) B55 dL_takes_517 rfl (k_about (Y := Y) (S := S54) hst A54 V4.1 6 ⟨by omega, by omega⟩ 0 0 (x := mv) (hx := (by rw [e4]; exact hmv))) eL_call w179 (by decide) rfl rfl (Nat.le_of_ble_eq_true rfl) (by omega) (Nat.le_trans (show 26 ≤ 40 by omega) E.2.1) (Nat.le_trans (show 6 * (26) ≤ 6 * 40 by omega) E.2.2) (fun v S56 hS56 => ?_)
        obtain ⟨rfl, A56, K56⟩ := hS56
        have D56 := PK_o2 D54 K56
        have B57 := gB_K (c := 26) B55 (Nat.le_trans (show 26 ≤ 40 by omega) E.2.1) (Nat.le_trans (show 6 * (26) ≤ 6 * 40 by omega) E.2.2)
        show gW Y (xK X (26)) S56 520 [(9, .int (iI 1)), (15, .int (iI ls)), (14, .int (iI gp)), (13, .int (iI wy)), (12, .int (iI rf)), (11, .int (iI bs)), (10, .int (iI mv)), (8, .int (iI ow)), (7, .int (iI ig)), (6, .int (iI hd)), (5, .int (iI tt)), (4, .int (iI r)), (3, .int (iI (runsF (pG P)))), (0, .ref (yA Y 72)), (1, .ref (yA Y 172)), (2, .int (iI x))] [.int (iI mv)]
        refine g_iload (q := 522) B57 dL_takes_520 rfl 6 rfl ?_
        refine g_icmp_ne (t := 542) (q := 525) B57 dL_takes_522 (by decide) rfl ⟨by omega, by omega⟩ ⟨by omega, by omega⟩ (fun cq522 => absurd cq522 (by omega)) (fun cq522 => ?_)
        refine g_aload_n (q := 526) B57 dL_takes_525 rfl 13 rfl ?_
        refine g_iconst (q := 527) B57 dL_takes_526 rfl ?_
        refine g_iconst (q := 528) B57 dL_takes_527 rfl ?_
        refine g_iconst (q := 529) B57 dL_takes_528 rfl ?_
        refine g_iconst (q := 530) B57 dL_takes_529 rfl ?_
        refine g_callN (q := 533) (m1 := 1) (c2 := 27) (As := [.ref (yA Y 72), .int (iI 2), .int (iI 4), .int (iI 0), .int (iI 0)]) (st := []) B57 dL_takes_530 rfl (k_about (Y := Y) (S := S56) hst A56 V4.1 4 ⟨by omega, by omega⟩ 0 0 (x := hd) (hx := (by rw [e4]; exact hhd))) eL_call w179 (by decide) rfl rfl (Nat.le_of_ble_eq_true rfl) (by omega) (Nat.le_trans (show 27 ≤ 40 by omega) E.2.1) (Nat.le_trans (show 6 * (27) ≤ 6 * 40 by omega) E.2.2) (fun v S58 hS58 => ?_)
        obtain ⟨rfl, A58, K58⟩ := hS58
        have D58 := PK_o2 D56 K58
        have B59 := gB_K (c := 27) B57 (Nat.le_trans (show 27 ≤ 40 by omega) E.2.1) (Nat.le_trans (show 6 * (27) ≤ 6 * 40 by omega) E.2.2)
        show gW Y (xK X (27)) S58 533 [(9, .int (iI 1)), (15, .int (iI ls)), (14, .int (iI gp)), (13, .int (iI wy)), (12, .int (iI rf)), (11, .int (iI bs)), (10, .int (iI mv)), (8, .int (iI ow)), (7, .int (iI ig)), (6, .int (iI hd)), (5, .int (iI tt)), (4, .int (iI r)), (3, .int (iI (runsF (pG P)))), (0, .ref (yA Y 72)), (1, .ref (yA Y 172)), (2, .int (iI x))] [.int (iI hd)]
        refine g_iload (q := 535) B59 dL_takes_533 rfl 9 rfl ?_
        refine g_icmp_ne (t := 542) (q := 538) B59 dL_takes_535 (by decide) rfl ⟨by omega, by omega⟩ ⟨by omega, by omega⟩ (fun cq535 => absurd cq535 (by omega)) (fun cq535 => ?_)
        refine g_iconst (q := 539) B59 dL_takes_538 rfl ?_
        refine g_goto (q := 543) B59 dL_takes_539 (by decide) ?_
        exact gn_zret B59 E (by omega) dL_takes_543 rfl (by decide) ⟨rfl, P4, V4, A58, D58⟩
      · refine g_iconst (q := 405) B48 dL_takes_404 rfl ?_
        refine g_goto (q := 409) B48 dL_takes_405 (by decide) ?_
        refine g_aload_n (q := 410) B48 dL_takes_409 rfl 12 rfl ?_
        refine g_iconst (q := 411) B48 dL_takes_410 rfl ?_
        refine g_bipush (q := 413) B48 dL_takes_411 rfl (by decide) ?_
        refine g_iconst (q := 414) B48 dL_takes_413 rfl ?_
        refine g_iconst (q := 415) B48 dL_takes_414 rfl ?_
        refine g_callN (q := 418) (m1 := 1) (c2 := 23) (As := [.ref (yA Y 72), .int (iI 2), .int (iI 7), .int (iI 0), .int (iI 0)]) (st := [.int (iI 1)]) B48 dL_takes_415 rfl (k_about (Y := Y) (S := S47) hst A47 V4.1 7 ⟨by omega, by omega⟩ 0 0 (x := nb) (hx := (by rw [e4]; exact hnb))) eL_call w179 (by decide) rfl rfl (Nat.le_of_ble_eq_true rfl) (by omega) (Nat.le_trans (show 23 ≤ 40 by omega) E.2.1) (Nat.le_trans (show 6 * (23) ≤ 6 * 40 by omega) E.2.2) (fun v S60 hS60 => ?_)
        obtain ⟨rfl, A60, K60⟩ := hS60
        have D60 := PK_o2 D47 K60
        have B61 := gB_K (c := 23) B48 (Nat.le_trans (show 23 ≤ 40 by omega) E.2.1) (Nat.le_trans (show 6 * (23) ≤ 6 * 40 by omega) E.2.2)
        show gW Y (xK X (23)) S60 418 [(14, .int (iI gp)), (9, .int (iI 1)), (13, .int (iI wy)), (12, .int (iI rf)), (11, .int (iI bs)), (10, .int (iI mv)), (8, .int (iI ow)), (7, .int (iI ig)), (6, .int (iI hd)), (5, .int (iI tt)), (4, .int (iI r)), (3, .int (iI (runsF (pG P)))), (0, .ref (yA Y 72)), (1, .ref (yA Y 172)), (2, .int (iI x))] [.int (iI nb), .int (iI 1)]
        refine g_if_ne (t := 425) (q := 421) B61 dL_takes_418 (by decide) rfl ⟨by omega, by omega⟩ (fun cq418 => absurd cq418 (by omega)) (fun cq418 => ?_)
        refine g_iconst (q := 422) B61 dL_takes_421 rfl ?_
        refine g_goto (q := 426) B61 dL_takes_422 (by decide) ?_
        refine g_icmp_ne (t := 433) (q := 429) B61 dL_takes_426 (by decide) rfl ⟨by omega, by omega⟩ ⟨by omega, by omega⟩ (fun cq426 => absurd cq426 (by decide)) (fun cq426 => ?_)
        refine g_iconst (q := 430) B61 dL_takes_429 rfl ?_
        refine g_goto (q := 434) B61 dL_takes_430 (by decide) ?_
        refine g_istore (q := 436) B61 dL_takes_434 rfl (by decide) (L' := [(9, .int (iI 1)), (14, .int (iI gp)), (13, .int (iI wy)), (12, .int (iI rf)), (11, .int (iI bs)), (10, .int (iI mv)), (8, .int (iI ow)), (7, .int (iI ig)), (6, .int (iI hd)), (5, .int (iI tt)), (4, .int (iI r)), (3, .int (iI (runsF (pG P)))), (0, .ref (yA Y 72)), (1, .ref (yA Y 172)), (2, .int (iI x))]) rfl ?_
        refine g_iload (q := 438) B61 dL_takes_436 rfl 4 rfl ?_
        refine g_iconst (q := 439) B61 dL_takes_438 rfl ?_
        refine g_icmp_eq (t := 506) (q := 442) B61 dL_takes_439 (by decide) rfl ⟨by omega, by omega⟩ ⟨by omega, by omega⟩ (fun cq439 => ?_) (fun cq439 => absurd cq439 (by omega))
        refine g_iload (q := 508) B61 dL_takes_506 rfl 0 rfl ?_
        refine g_if_eq (t := 542) (q := 511) B61 dL_takes_508 (by decide) rfl ⟨by omega, by omega⟩ (fun cq508 => absurd cq508 (by decide)) (fun cq508 => ?_)
        refine g_aload_n (q := 512) B61 dL_takes_511 rfl 12 rfl ?_
        refine g_iconst (q := 513) B61 dL_takes_512 rfl ?_
        refine g_bipush (q := 515) B61 dL_takes_513 rfl (by decide) ?_
        refine g_iconst (q := 516) B61 dL_takes_515 rfl ?_
        refine g_iconst (q := 517) B61 dL_takes_516 rfl ?_
        refine g_callN (q := 520) (m1 := 1) (c2 := 24) (As := [.ref (yA Y 72), .int (iI 2), .int (iI 6), .int (iI 0), .int (iI 0)]) (st := []) B61 dL_takes_517 rfl (k_about (Y := Y) (S := S60) hst A60 V4.1 6 ⟨by omega, by omega⟩ 0 0 (x := mv) (hx := (by rw [e4]; exact hmv))) eL_call w179 (by decide) rfl rfl (Nat.le_of_ble_eq_true rfl) (by omega) (Nat.le_trans (show 24 ≤ 40 by omega) E.2.1) (Nat.le_trans (show 6 * (24) ≤ 6 * 40 by omega) E.2.2) (fun v S62 hS62 => ?_)
        obtain ⟨rfl, A62, K62⟩ := hS62
        have D62 := PK_o2 D60 K62
        have B63 := gB_K (c := 24) B61 (Nat.le_trans (show 24 ≤ 40 by omega) E.2.1) (Nat.le_trans (show 6 * (24) ≤ 6 * 40 by omega) E.2.2)
        show gW Y (xK X (24)) S62 520 [(9, .int (iI 1)), (14, .int (iI gp)), (13, .int (iI wy)), (12, .int (iI rf)), (11, .int (iI bs)), (10, .int (iI mv)), (8, .int (iI ow)), (7, .int (iI ig)), (6, .int (iI hd)), (5, .int (iI tt)), (4, .int (iI r)), (3, .int (iI (runsF (pG P)))), (0, .ref (yA Y 72)), (1, .ref (yA Y 172)), (2, .int (iI x))] [.int (iI mv)]
        refine g_iload (q := 522) B63 dL_takes_520 rfl 5 rfl ?_
        refine g_icmp_ne (t := 542) (q := 525) B63 dL_takes_522 (by decide) rfl ⟨by omega, by omega⟩ ⟨by omega, by omega⟩ (fun cq522 => absurd cq522 (by omega)) (fun cq522 => ?_)
        refine g_aload_n (q := 526) B63 dL_takes_525 rfl 12 rfl ?_
        refine g_iconst (q := 527) B63 dL_takes_526 rfl ?_
        refine g_iconst (q := 528) B63 dL_takes_527 rfl ?_
        refine g_iconst (q := 529) B63 dL_takes_528 rfl ?_
        refine g_iconst (q := 530) B63 dL_takes_529 rfl ?_
        refine g_callN (q := 533) (m1 := 1) (c2 := 25) (As := [.ref (yA Y 72), .int (iI 2), .int (iI 4), .int (iI 0), .int (iI 0)]) (st := []) B63 dL_takes_530 rfl (k_about (Y := Y) (S := S62) hst A62 V4.1 4 ⟨by omega, by omega⟩ 0 0 (x := hd) (hx := (by rw [e4]; exact hhd))) eL_call w179 (by decide) rfl rfl (Nat.le_of_ble_eq_true rfl) (by omega) (Nat.le_trans (show 25 ≤ 40 by omega) E.2.1) (Nat.le_trans (show 6 * (25) ≤ 6 * 40 by omega) E.2.2) (fun v S64 hS64 => ?_)
        obtain ⟨rfl, A64, K64⟩ := hS64
        have D64 := PK_o2 D62 K64
        have B65 := gB_K (c := 25) B63 (Nat.le_trans (show 25 ≤ 40 by omega) E.2.1) (Nat.le_trans (show 6 * (25) ≤ 6 * 40 by omega) E.2.2)
        show gW Y (xK X (25)) S64 533 [(9, .int (iI 1)), (14, .int (iI gp)), (13, .int (iI wy)), (12, .int (iI rf)), (11, .int (iI bs)), (10, .int (iI mv)), (8, .int (iI ow)), (7, .int (iI ig)), (6, .int (iI hd)), (5, .int (iI tt)), (4, .int (iI r)), (3, .int (iI (runsF (pG P)))), (0, .ref (yA Y 72)), (1, .ref (yA Y 172)), (2, .int (iI x))] [.int (iI hd)]
        refine g_iload (q := 535) B65 dL_takes_533 rfl 8 rfl ?_
        refine g_icmp_ne (t := 542) (q := 538) B65 dL_takes_535 (by decide) rfl ⟨by omega, by omega⟩ ⟨by omega, by omega⟩ (fun cq535 => absurd cq535 (by omega)) (fun cq535 => ?_)
        refine g_iconst (q := 539) B65 dL_takes_538 rfl ?_
        refine g_goto (q := 543) B65 dL_takes_539 (by decide) ?_
        exact gn_zret B65 E (by omega) dL_takes_543 rfl (by decide) ⟨rfl, P4, V4, A64, D64⟩
    · have hy0 : ¬ wy = 0 := by omega
      have tyy := tn hy0
      refine g_iconst (q := 264) B35 dL_takes_263 rfl ?_
      refine g_goto (q := 268) B35 dL_takes_264 (by decide) ?_
      refine g_icmp_ne (t := 350) (q := 271) B35 dL_takes_268 (by decide) rfl ⟨by omega, by omega⟩ ⟨by omega, by omega⟩ (fun cq268 => absurd cq268 (by omega)) (fun cq268 => ?_)
      refine g_aload_n (q := 272) B35 dL_takes_271 rfl 11 rfl ?_
      refine g_iconst (q := 273) B35 dL_takes_272 rfl ?_
      refine g_bipush (q := 275) B35 dL_takes_273 rfl (by decide) ?_
      refine g_iconst (q := 276) B35 dL_takes_275 rfl ?_
      refine g_iconst (q := 277) B35 dL_takes_276 rfl ?_
      refine g_callN (q := 280) (m1 := 1) (c2 := 17) (As := [.ref (yA Y 72), .int (iI 2), .int (iI 6), .int (iI 0), .int (iI 0)]) (st := []) B35 dL_takes_277 rfl (k_about (Y := Y) (S := S34) hst A34 V3.1 6 ⟨by omega, by omega⟩ 0 0 (x := t2) (hx := (by rw [e3]; exact ht2))) eL_call w179 (by decide) rfl rfl (Nat.le_of_ble_eq_true rfl) (by omega) (Nat.le_trans (show 17 ≤ 40 by omega) E.2.1) (Nat.le_trans (show 6 * (17) ≤ 6 * 40 by omega) E.2.2) (fun v S66 hS66 => ?_)
      obtain ⟨rfl, A66, K66⟩ := hS66
      have D66 := PK_o2 D34 K66
      have B67 := gB_K (c := 17) B35 (Nat.le_trans (show 17 ≤ 40 by omega) E.2.1) (Nat.le_trans (show 6 * (17) ≤ 6 * 40 by omega) E.2.2)
      show gW Y (xK X (17)) S66 280 [(13, .int (iI wy)), (12, .int (iI rf)), (11, .int (iI bs)), (10, .int (iI mv)), (9, .int (iI 1)), (8, .int (iI ow)), (7, .int (iI ig)), (6, .int (iI hd)), (5, .int (iI tt)), (4, .int (iI r)), (3, .int (iI (runsF (pG P)))), (0, .ref (yA Y 72)), (1, .ref (yA Y 172)), (2, .int (iI x))] [.int (iI t2)]
      refine g_iload (q := 282) B67 dL_takes_280 rfl 0 rfl ?_
      refine g_if_ne (t := 292) (q := 285) B67 dL_takes_282 (by decide) rfl ⟨by omega, by omega⟩ (fun cq282 => ?_) (fun cq282 => absurd cq282 (by omega))
      refine g_iload (q := 294) B67 dL_takes_292 rfl 3 rfl ?_
      refine g_icmp_ne (t := 350) (q := 297) B67 dL_takes_294 (by decide) rfl ⟨by omega, by omega⟩ ⟨by omega, by omega⟩ (fun cq294 => absurd cq294 (by omega)) (fun cq294 => ?_)
      refine g_aload_n (q := 298) B67 dL_takes_297 rfl 11 rfl ?_
      refine g_iconst (q := 299) B67 dL_takes_298 rfl ?_
      refine g_bipush (q := 301) B67 dL_takes_299 rfl (by decide) ?_
      refine g_iconst (q := 302) B67 dL_takes_301 rfl ?_
      refine g_iconst (q := 303) B67 dL_takes_302 rfl ?_
      refine g_callN (q := 306) (m1 := 1) (c2 := 18) (As := [.ref (yA Y 72), .int (iI 2), .int (iI 8), .int (iI 0), .int (iI 0)]) (st := []) B67 dL_takes_303 rfl (k_about (Y := Y) (S := S66) hst A66 V3.1 8 ⟨by omega, by omega⟩ 0 0 (x := t3) (hx := (by rw [e3]; exact ht3))) eL_call w179 (by decide) rfl rfl (Nat.le_of_ble_eq_true rfl) (by omega) (Nat.le_trans (show 18 ≤ 40 by omega) E.2.1) (Nat.le_trans (show 6 * (18) ≤ 6 * 40 by omega) E.2.2) (fun v S68 hS68 => ?_)
      obtain ⟨rfl, A68, K68⟩ := hS68
      have D68 := PK_o2 D66 K68
      have B69 := gB_K (c := 18) B67 (Nat.le_trans (show 18 ≤ 40 by omega) E.2.1) (Nat.le_trans (show 6 * (18) ≤ 6 * 40 by omega) E.2.2)
      show gW Y (xK X (18)) S68 306 [(13, .int (iI wy)), (12, .int (iI rf)), (11, .int (iI bs)), (10, .int (iI mv)), (9, .int (iI 1)), (8, .int (iI ow)), (7, .int (iI ig)), (6, .int (iI hd)), (5, .int (iI tt)), (4, .int (iI r)), (3, .int (iI (runsF (pG P)))), (0, .ref (yA Y 72)), (1, .ref (yA Y 172)), (2, .int (iI x))] [.int (iI t3)]
      refine g_iload (q := 308) B69 dL_takes_306 rfl 1 rfl ?_
      refine g_iload (q := 310) B69 dL_takes_308 rfl 0 rfl ?_
      refine g_if_ne (t := 317) (q := 313) B69 dL_takes_310 (by decide) rfl ⟨by omega, by omega⟩ (fun cq310 => ?_) (fun cq310 => absurd cq310 (by omega))
      refine g_iconst (q := 318) B69 dL_takes_317 rfl ?_
      refine g_iadd (q := 319) B69 dL_takes_318 rfl ?_
      refine g_eqT (st' := [.int (iI (oI (rf + 1))), .int (iI (oI t3))]) (by rw [oI_iI, oI_iI]) ?_
      refine g_icmp_ne (t := 350) (q := 322) B69 dL_takes_319 (by decide) rfl (oI_in _) (oI_in _) (fun cq319 => absurd cq319 (by exact fun z => z (congrArg oI (by omega)))) (fun cq319 => ?_)
      refine g_aload_n (q := 323) B69 dL_takes_322 rfl 11 rfl ?_
      refine g_iconst (q := 324) B69 dL_takes_323 rfl ?_
      refine g_iload (q := 326) B69 dL_takes_324 rfl 9 rfl ?_
      refine g_iconst (q := 327) B69 dL_takes_326 rfl ?_
      refine g_iconst (q := 328) B69 dL_takes_327 rfl ?_
      refine g_callN (q := 331) (m1 := 1) (c2 := 19) (As := [.ref (yA Y 72), .int (iI 5), .int (iI r), .int (iI 2), .int (iI 0)]) (st := []) B69 dL_takes_328 rfl (k_runOf (Y := Y) (S := S68) hst A68 V3.1 r ⟨by omega, by omega⟩ 2 ⟨by omega, by omega⟩ 0 (x := t8) (hx := (by rw [e3]; exact tv_own m1.1 (by rw [ht9, q9]; exact m1.2) ht8))) eL_call w179 (by decide) rfl rfl (Nat.le_of_ble_eq_true rfl) (by omega) (Nat.le_trans (show 19 ≤ 40 by omega) E.2.1) (Nat.le_trans (show 6 * (19) ≤ 6 * 40 by omega) E.2.2) (fun v S70 hS70 => ?_)
      obtain ⟨rfl, A70, K70⟩ := hS70
      have D70 := PK_o2 D68 K70
      have B71 := gB_K (c := 19) B69 (Nat.le_trans (show 19 ≤ 40 by omega) E.2.1) (Nat.le_trans (show 6 * (19) ≤ 6 * 40 by omega) E.2.2)
      show gW Y (xK X (19)) S70 331 [(13, .int (iI wy)), (12, .int (iI rf)), (11, .int (iI bs)), (10, .int (iI mv)), (9, .int (iI 1)), (8, .int (iI ow)), (7, .int (iI ig)), (6, .int (iI hd)), (5, .int (iI tt)), (4, .int (iI r)), (3, .int (iI (runsF (pG P)))), (0, .ref (yA Y 72)), (1, .ref (yA Y 172)), (2, .int (iI x))] [.int (iI t8)]
      refine g_iload (q := 333) B71 dL_takes_331 rfl 0 rfl ?_
      refine g_if_ne (t := 341) (q := 336) B71 dL_takes_333 (by decide) rfl ⟨by omega, by omega⟩ (fun cq333 => ?_) (fun cq333 => absurd cq333 (by omega))
      refine g_iload (q := 343) B71 dL_takes_341 rfl 5 rfl ?_
      refine g_icmp_ne (t := 350) (q := 346) B71 dL_takes_343 (by decide) rfl ⟨by omega, by omega⟩ ⟨by omega, by omega⟩ (fun cq343 => absurd cq343 (by omega)) (fun cq343 => ?_)
      refine g_iconst (q := 347) B71 dL_takes_346 rfl ?_
      refine g_goto (q := 351) B71 dL_takes_347 (by decide) ?_
      refine g_istore (q := 353) B71 dL_takes_351 rfl (by decide) (L' := [(9, .int (iI 1)), (13, .int (iI wy)), (12, .int (iI rf)), (11, .int (iI bs)), (10, .int (iI mv)), (8, .int (iI ow)), (7, .int (iI ig)), (6, .int (iI hd)), (5, .int (iI tt)), (4, .int (iI r)), (3, .int (iI (runsF (pG P)))), (0, .ref (yA Y 72)), (1, .ref (yA Y 172)), (2, .int (iI x))]) rfl ?_
      refine g_aload_n (q := 354) B71 dL_takes_353 rfl 11 rfl ?_
      refine g_iconst (q := 355) B71 dL_takes_354 rfl ?_
      refine g_iconst (q := 356) B71 dL_takes_355 rfl ?_
      refine g_iconst (q := 357) B71 dL_takes_356 rfl ?_
      refine g_iconst (q := 358) B71 dL_takes_357 rfl ?_
      refine g_callN (q := 361) (m1 := 1) (c2 := 20) (As := [.ref (yA Y 72), .int (iI 2), .int (iI 4), .int (iI 0), .int (iI 0)]) (st := []) B71 dL_takes_358 rfl (k_about (Y := Y) (S := S70) hst A70 V3.1 4 ⟨by omega, by omega⟩ 0 0 (x := gp) (hx := (by rw [e3]; exact hgp))) eL_call w179 (by decide) rfl rfl (Nat.le_of_ble_eq_true rfl) (by omega) (Nat.le_trans (show 20 ≤ 40 by omega) E.2.1) (Nat.le_trans (show 6 * (20) ≤ 6 * 40 by omega) E.2.2) (fun v S72 hS72 => ?_)
      obtain ⟨rfl, A72, K72⟩ := hS72
      have D72 := PK_o2 D70 K72
      have B73 := gB_K (c := 20) B71 (Nat.le_trans (show 20 ≤ 40 by omega) E.2.1) (Nat.le_trans (show 6 * (20) ≤ 6 * 40 by omega) E.2.2)
      show gW Y (xK X (20)) S72 361 [(9, .int (iI 1)), (13, .int (iI wy)), (12, .int (iI rf)), (11, .int (iI bs)), (10, .int (iI mv)), (8, .int (iI ow)), (7, .int (iI ig)), (6, .int (iI hd)), (5, .int (iI tt)), (4, .int (iI r)), (3, .int (iI (runsF (pG P)))), (0, .ref (yA Y 72)), (1, .ref (yA Y 172)), (2, .int (iI x))] [.int (iI gp)]
      refine g_istore (q := 363) B73 dL_takes_361 rfl (by decide) (L' := [(14, .int (iI gp)), (9, .int (iI 1)), (13, .int (iI wy)), (12, .int (iI rf)), (11, .int (iI bs)), (10, .int (iI mv)), (8, .int (iI ow)), (7, .int (iI ig)), (6, .int (iI hd)), (5, .int (iI tt)), (4, .int (iI r)), (3, .int (iI (runsF (pG P)))), (0, .ref (yA Y 72)), (1, .ref (yA Y 172)), (2, .int (iI x))]) rfl ?_
      refine g_iload (q := 365) B73 dL_takes_363 rfl 1 rfl ?_
      refine g_if_eq (t := 433) (q := 368) B73 dL_takes_365 (by decide) rfl ⟨by omega, by omega⟩ (fun cq365 => absurd cq365 (by decide)) (fun cq365 => ?_)
      refine g_aload_n (q := 369) B73 dL_takes_368 rfl 12 rfl ?_
      refine g_bipush (q := 371) B73 dL_takes_369 rfl (by decide) ?_
      refine g_iconst (q := 372) B73 dL_takes_371 rfl ?_
      refine g_iconst (q := 373) B73 dL_takes_372 rfl ?_
      refine g_iconst (q := 374) B73 dL_takes_373 rfl ?_
      refine g_callN (q := 377) (m1 := 1) (c2 := 21) (As := [.ref (yA Y 72), .int (iI 15), .int (iI 0), .int (iI 0), .int (iI 0)]) (st := []) B73 dL_takes_374 rfl (k_undo (Y := Y) (S := S72) hst A72 V3.1  0 0 0 (x := pK P3 - 1) (hx := tv_0 (cd_undo0 k3)) (P' := P4) (hP := (if_pos (cd_undo0 k3)).trans hP4)) eL_call w179 (by decide) rfl rfl (Nat.le_of_ble_eq_true rfl) (by omega) (Nat.le_trans (show 21 ≤ 40 by omega) E.2.1) (Nat.le_trans (show 6 * (21) ≤ 6 * 40 by omega) E.2.2) (fun v S74 hS74 => ?_)
      obtain ⟨rfl, A74, K74⟩ := hS74
      have D74 := PK_o2 D72 K74
      have B75 := gB_K (c := 21) B73 (Nat.le_trans (show 21 ≤ 40 by omega) E.2.1) (Nat.le_trans (show 6 * (21) ≤ 6 * 40 by omega) E.2.2)
      show gW Y (xK X (21)) S74 377 [(14, .int (iI gp)), (9, .int (iI 1)), (13, .int (iI wy)), (12, .int (iI rf)), (11, .int (iI bs)), (10, .int (iI mv)), (8, .int (iI ow)), (7, .int (iI ig)), (6, .int (iI hd)), (5, .int (iI tt)), (4, .int (iI r)), (3, .int (iI (runsF (pG P)))), (0, .ref (yA Y 72)), (1, .ref (yA Y 172)), (2, .int (iI x))] [.int (iI (pK P3 - 1))]
      refine g_callN (q := 380) (m1 := 0) (c2 := 21) (As := [.int (iI (pK P3 - 1))]) (st := []) B75 dL_takes_377 rfl (c_thrown (Y := Y) (S := S74) (pK P3 - 1) ⟨by omega, by omega⟩ (by omega)) eL_thrown w937 (by decide) rfl rfl (Nat.le_of_ble_eq_true rfl) (by omega) (Nat.le_trans (show 21 ≤ 40 by omega) E.2.1) (Nat.le_trans (show 6 * (21) ≤ 6 * 40 by omega) E.2.2) (fun v S76 hS76 => ?_)
      obtain ⟨rfl, eS76⟩ := hS76
      rw [eS76]
      show gW Y (xK X (21)) S74 380 [(14, .int (iI gp)), (9, .int (iI 1)), (13, .int (iI wy)), (12, .int (iI rf)), (11, .int (iI bs)), (10, .int (iI mv)), (8, .int (iI ow)), (7, .int (iI ig)), (6, .int (iI hd)), (5, .int (iI tt)), (4, .int (iI r)), (3, .int (iI (runsF (pG P)))), (0, .ref (yA Y 72)), (1, .ref (yA Y 172)), (2, .int (iI x))] [.int (iI 0)]
      refine g_if_ne (t := 433) (q := 383) B75 dL_takes_380 (by decide) rfl ⟨by omega, by omega⟩ (fun cq380 => absurd cq380 (by decide)) (fun cq380 => ?_)
      refine g_aload_n (q := 384) B75 dL_takes_383 rfl 13 rfl ?_
      refine g_bipush (q := 386) B75 dL_takes_384 rfl (by decide) ?_
      refine g_iconst (q := 387) B75 dL_takes_386 rfl ?_
      refine g_iconst (q := 388) B75 dL_takes_387 rfl ?_
      refine g_iconst (q := 389) B75 dL_takes_388 rfl ?_
      refine g_callN (q := 392) (m1 := 1) (c2 := 22) (As := [.ref (yA Y 172), .int (iI 15), .int (iI 0), .int (iI 0), .int (iI 0)]) (st := []) B75 dL_takes_389 rfl (gN_sw (k_undo (Y := ySw Y) (S := sS S74) hst D74 V3.1  0 0 0 (x := pK P3 - 1) (hx := tv_0 (cd_undo0 k3)) (P' := P4) (hP := (if_pos (cd_undo0 k3)).trans hP4))) eL_call w179 (by decide) rfl rfl (Nat.le_of_ble_eq_true rfl) (by omega) (Nat.le_trans (show 22 ≤ 40 by omega) E.2.1) (Nat.le_trans (show 6 * (22) ≤ 6 * 40 by omega) E.2.2) (fun v S77 hS77 => ?_)
      obtain ⟨rfl, D77, K77⟩ := hS77
      have A77 := PK_o1 A74 K77
      have B78 := gB_K (c := 22) B75 (Nat.le_trans (show 22 ≤ 40 by omega) E.2.1) (Nat.le_trans (show 6 * (22) ≤ 6 * 40 by omega) E.2.2)
      show gW Y (xK X (22)) S77 392 [(14, .int (iI gp)), (9, .int (iI 1)), (13, .int (iI wy)), (12, .int (iI rf)), (11, .int (iI bs)), (10, .int (iI mv)), (8, .int (iI ow)), (7, .int (iI ig)), (6, .int (iI hd)), (5, .int (iI tt)), (4, .int (iI r)), (3, .int (iI (runsF (pG P)))), (0, .ref (yA Y 72)), (1, .ref (yA Y 172)), (2, .int (iI x))] [.int (iI (pK P3 - 1))]
      refine g_callN (q := 395) (m1 := 0) (c2 := 22) (As := [.int (iI (pK P3 - 1))]) (st := []) B78 dL_takes_392 rfl (c_thrown (Y := Y) (S := S77) (pK P3 - 1) ⟨by omega, by omega⟩ (by omega)) eL_thrown w937 (by decide) rfl rfl (Nat.le_of_ble_eq_true rfl) (by omega) (Nat.le_trans (show 22 ≤ 40 by omega) E.2.1) (Nat.le_trans (show 6 * (22) ≤ 6 * 40 by omega) E.2.2) (fun v S79 hS79 => ?_)
      obtain ⟨rfl, eS79⟩ := hS79
      rw [eS79]
      show gW Y (xK X (22)) S77 395 [(14, .int (iI gp)), (9, .int (iI 1)), (13, .int (iI wy)), (12, .int (iI rf)), (11, .int (iI bs)), (10, .int (iI mv)), (8, .int (iI ow)), (7, .int (iI ig)), (6, .int (iI hd)), (5, .int (iI tt)), (4, .int (iI r)), (3, .int (iI (runsF (pG P)))), (0, .ref (yA Y 72)), (1, .ref (yA Y 172)), (2, .int (iI x))] [.int (iI 0)]
      refine g_if_ne (t := 433) (q := 398) B78 dL_takes_395 (by decide) rfl ⟨by omega, by omega⟩ (fun cq395 => absurd cq395 (by decide)) (fun cq395 => ?_)
      refine g_iload (q := 400) B78 dL_takes_398 rfl 4 rfl ?_
      refine g_iconst (q := 401) B78 dL_takes_400 rfl ?_
      refine g_icmp_ne (t := 408) (q := 404) B78 dL_takes_401 (by decide) rfl ⟨by omega, by omega⟩ ⟨by omega, by omega⟩ (fun cq401 => ?_) (fun cq401 => ?_)
      · have hbz : bs ≠ -1 := by omega
        have brz := br hbz
        refine g_iconst (q := 409) B78 dL_takes_408 rfl ?_
        refine g_aload_n (q := 410) B78 dL_takes_409 rfl 12 rfl ?_
        refine g_iconst (q := 411) B78 dL_takes_410 rfl ?_
        refine g_bipush (q := 413) B78 dL_takes_411 rfl (by decide) ?_
        refine g_iconst (q := 414) B78 dL_takes_413 rfl ?_
        refine g_iconst (q := 415) B78 dL_takes_414 rfl ?_
        refine g_callN (q := 418) (m1 := 1) (c2 := 23) (As := [.ref (yA Y 72), .int (iI 2), .int (iI 7), .int (iI 0), .int (iI 0)]) (st := [.int (iI 0)]) B78 dL_takes_415 rfl (k_about (Y := Y) (S := S77) hst A77 V4.1 7 ⟨by omega, by omega⟩ 0 0 (x := nb) (hx := (by rw [e4]; exact hnb))) eL_call w179 (by decide) rfl rfl (Nat.le_of_ble_eq_true rfl) (by omega) (Nat.le_trans (show 23 ≤ 40 by omega) E.2.1) (Nat.le_trans (show 6 * (23) ≤ 6 * 40 by omega) E.2.2) (fun v S80 hS80 => ?_)
        obtain ⟨rfl, A80, K80⟩ := hS80
        have D80 := PK_o2 D77 K80
        have B81 := gB_K (c := 23) B78 (Nat.le_trans (show 23 ≤ 40 by omega) E.2.1) (Nat.le_trans (show 6 * (23) ≤ 6 * 40 by omega) E.2.2)
        show gW Y (xK X (23)) S80 418 [(14, .int (iI gp)), (9, .int (iI 1)), (13, .int (iI wy)), (12, .int (iI rf)), (11, .int (iI bs)), (10, .int (iI mv)), (8, .int (iI ow)), (7, .int (iI ig)), (6, .int (iI hd)), (5, .int (iI tt)), (4, .int (iI r)), (3, .int (iI (runsF (pG P)))), (0, .ref (yA Y 72)), (1, .ref (yA Y 172)), (2, .int (iI x))] [.int (iI nb), .int (iI 0)]
        refine g_if_ne (t := 425) (q := 421) B81 dL_takes_418 (by decide) rfl ⟨by omega, by omega⟩ (fun cq418 => ?_) (fun cq418 => absurd cq418 (by omega))
        refine g_iconst (q := 426) B81 dL_takes_425 rfl ?_
        refine g_icmp_ne (t := 433) (q := 429) B81 dL_takes_426 (by decide) rfl ⟨by omega, by omega⟩ ⟨by omega, by omega⟩ (fun cq426 => absurd cq426 (by decide)) (fun cq426 => ?_)
        refine g_iconst (q := 430) B81 dL_takes_429 rfl ?_
        refine g_goto (q := 434) B81 dL_takes_430 (by decide) ?_
        refine g_istore (q := 436) B81 dL_takes_434 rfl (by decide) (L' := [(9, .int (iI 1)), (14, .int (iI gp)), (13, .int (iI wy)), (12, .int (iI rf)), (11, .int (iI bs)), (10, .int (iI mv)), (8, .int (iI ow)), (7, .int (iI ig)), (6, .int (iI hd)), (5, .int (iI tt)), (4, .int (iI r)), (3, .int (iI (runsF (pG P)))), (0, .ref (yA Y 72)), (1, .ref (yA Y 172)), (2, .int (iI x))]) rfl ?_
        refine g_iload (q := 438) B81 dL_takes_436 rfl 4 rfl ?_
        refine g_iconst (q := 439) B81 dL_takes_438 rfl ?_
        refine g_icmp_eq (t := 506) (q := 442) B81 dL_takes_439 (by decide) rfl ⟨by omega, by omega⟩ ⟨by omega, by omega⟩ (fun cq439 => absurd cq439 (by omega)) (fun cq439 => ?_)
        refine g_iload (q := 444) B81 dL_takes_442 rfl 0 rfl ?_
        refine g_if_eq (t := 506) (q := 447) B81 dL_takes_444 (by decide) rfl ⟨by omega, by omega⟩ (fun cq444 => absurd cq444 (by decide)) (fun cq444 => ?_)
        refine g_aload_n (q := 448) B81 dL_takes_447 rfl 12 rfl ?_
        refine g_bipush (q := 450) B81 dL_takes_448 rfl (by decide) ?_
        refine g_iload (q := 452) B81 dL_takes_450 rfl 4 rfl ?_
        refine g_iload (q := 454) B81 dL_takes_452 rfl 5 rfl ?_
        refine g_iconst (q := 455) B81 dL_takes_454 rfl ?_
        refine g_callN (q := 458) (m1 := 1) (c2 := 24) (As := [.ref (yA Y 72), .int (iI 19), .int (iI bs), .int (iI mv), .int (iI 0)]) (st := []) B81 dL_takes_455 rfl (k_ifGiven (Y := Y) (S := S80) hst A80 V4.1 bs ⟨by omega, by omega⟩ mv ⟨by omega, by omega⟩ 0 (x := ls) (hx := (by rw [e4]; exact tv_give (br hbz).1.1 (br hbz).1.2 (by omega) (by rw [← hmv]; exact hls)))) eL_call w179 (by decide) rfl rfl (Nat.le_of_ble_eq_true rfl) (by omega) (Nat.le_trans (show 24 ≤ 40 by omega) E.2.1) (Nat.le_trans (show 6 * (24) ≤ 6 * 40 by omega) E.2.2) (fun v S82 hS82 => ?_)
        obtain ⟨rfl, A82, K82⟩ := hS82
        have D82 := PK_o2 D80 K82
        have B83 := gB_K (c := 24) B81 (Nat.le_trans (show 24 ≤ 40 by omega) E.2.1) (Nat.le_trans (show 6 * (24) ≤ 6 * 40 by omega) E.2.2)
        show gW Y (xK X (24)) S82 458 [(9, .int (iI 1)), (14, .int (iI gp)), (13, .int (iI wy)), (12, .int (iI rf)), (11, .int (iI bs)), (10, .int (iI mv)), (8, .int (iI ow)), (7, .int (iI ig)), (6, .int (iI hd)), (5, .int (iI tt)), (4, .int (iI r)), (3, .int (iI (runsF (pG P)))), (0, .ref (yA Y 72)), (1, .ref (yA Y 172)), (2, .int (iI x))] [.int (iI ls)]
        refine g_istore (q := 460) B83 dL_takes_458 rfl (by decide) (L' := [(15, .int (iI ls)), (9, .int (iI 1)), (14, .int (iI gp)), (13, .int (iI wy)), (12, .int (iI rf)), (11, .int (iI bs)), (10, .int (iI mv)), (8, .int (iI ow)), (7, .int (iI ig)), (6, .int (iI hd)), (5, .int (iI tt)), (4, .int (iI r)), (3, .int (iI (runsF (pG P)))), (0, .ref (yA Y 72)), (1, .ref (yA Y 172)), (2, .int (iI x))]) rfl ?_
        refine g_aload_n (q := 461) B83 dL_takes_460 rfl 13 rfl ?_
        refine g_iconst (q := 462) B83 dL_takes_461 rfl ?_
        refine g_iload (q := 464) B83 dL_takes_462 rfl 5 rfl ?_
        refine g_iconst (q := 465) B83 dL_takes_464 rfl ?_
        refine g_iconst (q := 466) B83 dL_takes_465 rfl ?_
        refine g_callN (q := 469) (m1 := 1) (c2 := 25) (As := [.ref (yA Y 72), .int (iI 5), .int (iI bs), .int (iI 2), .int (iI 0)]) (st := []) B83 dL_takes_466 rfl (k_runOf (Y := Y) (S := S82) hst A82 V4.1 bs ⟨by omega, by omega⟩ 2 ⟨by omega, by omega⟩ 0 (x := (-1)) (hx := (by rw [e4]; exact tv_own (br hbz).1.1 (br hbz).1.2 (br hbz).2.1))) eL_call w179 (by decide) rfl rfl (Nat.le_of_ble_eq_true rfl) (by omega) (Nat.le_trans (show 25 ≤ 40 by omega) E.2.1) (Nat.le_trans (show 6 * (25) ≤ 6 * 40 by omega) E.2.2) (fun v S84 hS84 => ?_)
        obtain ⟨rfl, A84, K84⟩ := hS84
        have D84 := PK_o2 D82 K84
        have B85 := gB_K (c := 25) B83 (Nat.le_trans (show 25 ≤ 40 by omega) E.2.1) (Nat.le_trans (show 6 * (25) ≤ 6 * 40 by omega) E.2.2)
        show gW Y (xK X (25)) S84 469 [(15, .int (iI ls)), (9, .int (iI 1)), (14, .int (iI gp)), (13, .int (iI wy)), (12, .int (iI rf)), (11, .int (iI bs)), (10, .int (iI mv)), (8, .int (iI ow)), (7, .int (iI ig)), (6, .int (iI hd)), (5, .int (iI tt)), (4, .int (iI r)), (3, .int (iI (runsF (pG P)))), (0, .ref (yA Y 72)), (1, .ref (yA Y 172)), (2, .int (iI x))] [.int (iI ((-1)))]
        refine g_iconst (q := 470) B85 dL_takes_469 rfl ?_
        refine g_icmp_ne (t := 503) (q := 473) B85 dL_takes_470 (by decide) rfl ⟨by omega, by omega⟩ ⟨by omega, by omega⟩ (fun cq470 => absurd cq470 (by decide)) (fun cq470 => ?_)
        refine g_iload (q := 475) B85 dL_takes_473 rfl 3 rfl ?_
        refine g_if_gt (t := 499) (q := 478) B85 dL_takes_475 (by decide) rfl ⟨by omega, by omega⟩ (fun cq475 => ?_) (fun cq475 => absurd cq475 (by omega))
        refine g_iconst (q := 500) B85 dL_takes_499 rfl ?_
        refine g_goto (q := 504) B85 dL_takes_500 (by decide) ?_
        refine g_istore (q := 506) B85 dL_takes_504 rfl (by decide) (L' := [(9, .int (iI 1)), (15, .int (iI ls)), (14, .int (iI gp)), (13, .int (iI wy)), (12, .int (iI rf)), (11, .int (iI bs)), (10, .int (iI mv)), (8, .int (iI ow)), (7, .int (iI ig)), (6, .int (iI hd)), (5, .int (iI tt)), (4, .int (iI r)), (3, .int (iI (runsF (pG P)))), (0, .ref (yA Y 72)), (1, .ref (yA Y 172)), (2, .int (iI x))]) rfl ?_
        refine g_iload (q := 508) B85 dL_takes_506 rfl 0 rfl ?_
        refine g_if_eq (t := 542) (q := 511) B85 dL_takes_508 (by decide) rfl ⟨by omega, by omega⟩ (fun cq508 => absurd cq508 (by decide)) (fun cq508 => ?_)
        refine g_aload_n (q := 512) B85 dL_takes_511 rfl 13 rfl ?_
        refine g_iconst (q := 513) B85 dL_takes_512 rfl ?_
        refine g_bipush (q := 515) B85 dL_takes_513 rfl (by decide) ?_
        refine g_iconst (q := 516) B85 dL_takes_515 rfl ?_
        refine g_iconst (q := 517) B85 dL_takes_516 rfl ?_
        refine g_callN (q := 520) (m1 := 1) (c2 := 26) (As := [.ref (yA Y 72), .int (iI 2), .int (iI 6), .int (iI 0), .int (iI 0)]) (st := []) B85 dL_takes_517 rfl (k_about (Y := Y) (S := S84) hst A84 V4.1 6 ⟨by omega, by omega⟩ 0 0 (x := mv) (hx := (by rw [e4]; exact hmv))) eL_call w179 (by decide) rfl rfl (Nat.le_of_ble_eq_true rfl) (by omega) (Nat.le_trans (show 26 ≤ 40 by omega) E.2.1) (Nat.le_trans (show 6 * (26) ≤ 6 * 40 by omega) E.2.2) (fun v S86 hS86 => ?_)
        obtain ⟨rfl, A86, K86⟩ := hS86
        have D86 := PK_o2 D84 K86
        have B87 := gB_K (c := 26) B85 (Nat.le_trans (show 26 ≤ 40 by omega) E.2.1) (Nat.le_trans (show 6 * (26) ≤ 6 * 40 by omega) E.2.2)
        show gW Y (xK X (26)) S86 520 [(9, .int (iI 1)), (15, .int (iI ls)), (14, .int (iI gp)), (13, .int (iI wy)), (12, .int (iI rf)), (11, .int (iI bs)), (10, .int (iI mv)), (8, .int (iI ow)), (7, .int (iI ig)), (6, .int (iI hd)), (5, .int (iI tt)), (4, .int (iI r)), (3, .int (iI (runsF (pG P)))), (0, .ref (yA Y 72)), (1, .ref (yA Y 172)), (2, .int (iI x))] [.int (iI mv)]
        refine g_iload (q := 522) B87 dL_takes_520 rfl 6 rfl ?_
        refine g_icmp_ne (t := 542) (q := 525) B87 dL_takes_522 (by decide) rfl ⟨by omega, by omega⟩ ⟨by omega, by omega⟩ (fun cq522 => absurd cq522 (by omega)) (fun cq522 => ?_)
        refine g_aload_n (q := 526) B87 dL_takes_525 rfl 13 rfl ?_
        refine g_iconst (q := 527) B87 dL_takes_526 rfl ?_
        refine g_iconst (q := 528) B87 dL_takes_527 rfl ?_
        refine g_iconst (q := 529) B87 dL_takes_528 rfl ?_
        refine g_iconst (q := 530) B87 dL_takes_529 rfl ?_
        refine g_callN (q := 533) (m1 := 1) (c2 := 27) (As := [.ref (yA Y 72), .int (iI 2), .int (iI 4), .int (iI 0), .int (iI 0)]) (st := []) B87 dL_takes_530 rfl (k_about (Y := Y) (S := S86) hst A86 V4.1 4 ⟨by omega, by omega⟩ 0 0 (x := hd) (hx := (by rw [e4]; exact hhd))) eL_call w179 (by decide) rfl rfl (Nat.le_of_ble_eq_true rfl) (by omega) (Nat.le_trans (show 27 ≤ 40 by omega) E.2.1) (Nat.le_trans (show 6 * (27) ≤ 6 * 40 by omega) E.2.2) (fun v S88 hS88 => ?_)
        obtain ⟨rfl, A88, K88⟩ := hS88
        have D88 := PK_o2 D86 K88
        have B89 := gB_K (c := 27) B87 (Nat.le_trans (show 27 ≤ 40 by omega) E.2.1) (Nat.le_trans (show 6 * (27) ≤ 6 * 40 by omega) E.2.2)
        show gW Y (xK X (27)) S88 533 [(9, .int (iI 1)), (15, .int (iI ls)), (14, .int (iI gp)), (13, .int (iI wy)), (12, .int (iI rf)), (11, .int (iI bs)), (10, .int (iI mv)), (8, .int (iI ow)), (7, .int (iI ig)), (6, .int (iI hd)), (5, .int (iI tt)), (4, .int (iI r)), (3, .int (iI (runsF (pG P)))), (0, .ref (yA Y 72)), (1, .ref (yA Y 172)), (2, .int (iI x))] [.int (iI hd)]
        refine g_iload (q := 535) B89 dL_takes_533 rfl 9 rfl ?_
        refine g_icmp_ne (t := 542) (q := 538) B89 dL_takes_535 (by decide) rfl ⟨by omega, by omega⟩ ⟨by omega, by omega⟩ (fun cq535 => absurd cq535 (by omega)) (fun cq535 => ?_)
        refine g_iconst (q := 539) B89 dL_takes_538 rfl ?_
        refine g_goto (q := 543) B89 dL_takes_539 (by decide) ?_
        exact gn_zret B89 E (by omega) dL_takes_543 rfl (by decide) ⟨rfl, P4, V4, A88, D88⟩
      · refine g_iconst (q := 405) B78 dL_takes_404 rfl ?_
        refine g_goto (q := 409) B78 dL_takes_405 (by decide) ?_
        refine g_aload_n (q := 410) B78 dL_takes_409 rfl 12 rfl ?_
        refine g_iconst (q := 411) B78 dL_takes_410 rfl ?_
        refine g_bipush (q := 413) B78 dL_takes_411 rfl (by decide) ?_
        refine g_iconst (q := 414) B78 dL_takes_413 rfl ?_
        refine g_iconst (q := 415) B78 dL_takes_414 rfl ?_
        refine g_callN (q := 418) (m1 := 1) (c2 := 23) (As := [.ref (yA Y 72), .int (iI 2), .int (iI 7), .int (iI 0), .int (iI 0)]) (st := [.int (iI 1)]) B78 dL_takes_415 rfl (k_about (Y := Y) (S := S77) hst A77 V4.1 7 ⟨by omega, by omega⟩ 0 0 (x := nb) (hx := (by rw [e4]; exact hnb))) eL_call w179 (by decide) rfl rfl (Nat.le_of_ble_eq_true rfl) (by omega) (Nat.le_trans (show 23 ≤ 40 by omega) E.2.1) (Nat.le_trans (show 6 * (23) ≤ 6 * 40 by omega) E.2.2) (fun v S90 hS90 => ?_)
        obtain ⟨rfl, A90, K90⟩ := hS90
        have D90 := PK_o2 D77 K90
        have B91 := gB_K (c := 23) B78 (Nat.le_trans (show 23 ≤ 40 by omega) E.2.1) (Nat.le_trans (show 6 * (23) ≤ 6 * 40 by omega) E.2.2)
        show gW Y (xK X (23)) S90 418 [(14, .int (iI gp)), (9, .int (iI 1)), (13, .int (iI wy)), (12, .int (iI rf)), (11, .int (iI bs)), (10, .int (iI mv)), (8, .int (iI ow)), (7, .int (iI ig)), (6, .int (iI hd)), (5, .int (iI tt)), (4, .int (iI r)), (3, .int (iI (runsF (pG P)))), (0, .ref (yA Y 72)), (1, .ref (yA Y 172)), (2, .int (iI x))] [.int (iI nb), .int (iI 1)]
        refine g_if_ne (t := 425) (q := 421) B91 dL_takes_418 (by decide) rfl ⟨by omega, by omega⟩ (fun cq418 => absurd cq418 (by omega)) (fun cq418 => ?_)
        refine g_iconst (q := 422) B91 dL_takes_421 rfl ?_
        refine g_goto (q := 426) B91 dL_takes_422 (by decide) ?_
        refine g_icmp_ne (t := 433) (q := 429) B91 dL_takes_426 (by decide) rfl ⟨by omega, by omega⟩ ⟨by omega, by omega⟩ (fun cq426 => absurd cq426 (by decide)) (fun cq426 => ?_)
        refine g_iconst (q := 430) B91 dL_takes_429 rfl ?_
        refine g_goto (q := 434) B91 dL_takes_430 (by decide) ?_
        refine g_istore (q := 436) B91 dL_takes_434 rfl (by decide) (L' := [(9, .int (iI 1)), (14, .int (iI gp)), (13, .int (iI wy)), (12, .int (iI rf)), (11, .int (iI bs)), (10, .int (iI mv)), (8, .int (iI ow)), (7, .int (iI ig)), (6, .int (iI hd)), (5, .int (iI tt)), (4, .int (iI r)), (3, .int (iI (runsF (pG P)))), (0, .ref (yA Y 72)), (1, .ref (yA Y 172)), (2, .int (iI x))]) rfl ?_
        refine g_iload (q := 438) B91 dL_takes_436 rfl 4 rfl ?_
        refine g_iconst (q := 439) B91 dL_takes_438 rfl ?_
        refine g_icmp_eq (t := 506) (q := 442) B91 dL_takes_439 (by decide) rfl ⟨by omega, by omega⟩ ⟨by omega, by omega⟩ (fun cq439 => ?_) (fun cq439 => absurd cq439 (by omega))
        refine g_iload (q := 508) B91 dL_takes_506 rfl 0 rfl ?_
        refine g_if_eq (t := 542) (q := 511) B91 dL_takes_508 (by decide) rfl ⟨by omega, by omega⟩ (fun cq508 => absurd cq508 (by decide)) (fun cq508 => ?_)
        refine g_aload_n (q := 512) B91 dL_takes_511 rfl 12 rfl ?_
        refine g_iconst (q := 513) B91 dL_takes_512 rfl ?_
        refine g_bipush (q := 515) B91 dL_takes_513 rfl (by decide) ?_
        refine g_iconst (q := 516) B91 dL_takes_515 rfl ?_
        refine g_iconst (q := 517) B91 dL_takes_516 rfl ?_
        refine g_callN (q := 520) (m1 := 1) (c2 := 24) (As := [.ref (yA Y 72), .int (iI 2), .int (iI 6), .int (iI 0), .int (iI 0)]) (st := []) B91 dL_takes_517 rfl (k_about (Y := Y) (S := S90) hst A90 V4.1 6 ⟨by omega, by omega⟩ 0 0 (x := mv) (hx := (by rw [e4]; exact hmv))) eL_call w179 (by decide) rfl rfl (Nat.le_of_ble_eq_true rfl) (by omega) (Nat.le_trans (show 24 ≤ 40 by omega) E.2.1) (Nat.le_trans (show 6 * (24) ≤ 6 * 40 by omega) E.2.2) (fun v S92 hS92 => ?_)
        obtain ⟨rfl, A92, K92⟩ := hS92
        have D92 := PK_o2 D90 K92
        have B93 := gB_K (c := 24) B91 (Nat.le_trans (show 24 ≤ 40 by omega) E.2.1) (Nat.le_trans (show 6 * (24) ≤ 6 * 40 by omega) E.2.2)
        show gW Y (xK X (24)) S92 520 [(9, .int (iI 1)), (14, .int (iI gp)), (13, .int (iI wy)), (12, .int (iI rf)), (11, .int (iI bs)), (10, .int (iI mv)), (8, .int (iI ow)), (7, .int (iI ig)), (6, .int (iI hd)), (5, .int (iI tt)), (4, .int (iI r)), (3, .int (iI (runsF (pG P)))), (0, .ref (yA Y 72)), (1, .ref (yA Y 172)), (2, .int (iI x))] [.int (iI mv)]
        refine g_iload (q := 522) B93 dL_takes_520 rfl 5 rfl ?_
        refine g_icmp_ne (t := 542) (q := 525) B93 dL_takes_522 (by decide) rfl ⟨by omega, by omega⟩ ⟨by omega, by omega⟩ (fun cq522 => absurd cq522 (by omega)) (fun cq522 => ?_)
        refine g_aload_n (q := 526) B93 dL_takes_525 rfl 12 rfl ?_
        refine g_iconst (q := 527) B93 dL_takes_526 rfl ?_
        refine g_iconst (q := 528) B93 dL_takes_527 rfl ?_
        refine g_iconst (q := 529) B93 dL_takes_528 rfl ?_
        refine g_iconst (q := 530) B93 dL_takes_529 rfl ?_
        refine g_callN (q := 533) (m1 := 1) (c2 := 25) (As := [.ref (yA Y 72), .int (iI 2), .int (iI 4), .int (iI 0), .int (iI 0)]) (st := []) B93 dL_takes_530 rfl (k_about (Y := Y) (S := S92) hst A92 V4.1 4 ⟨by omega, by omega⟩ 0 0 (x := hd) (hx := (by rw [e4]; exact hhd))) eL_call w179 (by decide) rfl rfl (Nat.le_of_ble_eq_true rfl) (by omega) (Nat.le_trans (show 25 ≤ 40 by omega) E.2.1) (Nat.le_trans (show 6 * (25) ≤ 6 * 40 by omega) E.2.2) (fun v S94 hS94 => ?_)
        obtain ⟨rfl, A94, K94⟩ := hS94
        have D94 := PK_o2 D92 K94
        have B95 := gB_K (c := 25) B93 (Nat.le_trans (show 25 ≤ 40 by omega) E.2.1) (Nat.le_trans (show 6 * (25) ≤ 6 * 40 by omega) E.2.2)
        show gW Y (xK X (25)) S94 533 [(9, .int (iI 1)), (14, .int (iI gp)), (13, .int (iI wy)), (12, .int (iI rf)), (11, .int (iI bs)), (10, .int (iI mv)), (8, .int (iI ow)), (7, .int (iI ig)), (6, .int (iI hd)), (5, .int (iI tt)), (4, .int (iI r)), (3, .int (iI (runsF (pG P)))), (0, .ref (yA Y 72)), (1, .ref (yA Y 172)), (2, .int (iI x))] [.int (iI hd)]
        refine g_iload (q := 535) B95 dL_takes_533 rfl 8 rfl ?_
        refine g_icmp_ne (t := 542) (q := 538) B95 dL_takes_535 (by decide) rfl ⟨by omega, by omega⟩ ⟨by omega, by omega⟩ (fun cq535 => absurd cq535 (by omega)) (fun cq535 => ?_)
        refine g_iconst (q := 539) B95 dL_takes_538 rfl ?_
        refine g_goto (q := 543) B95 dL_takes_539 (by decide) ?_
        exact gn_zret B95 E (by omega) dL_takes_543 rfl (by decide) ⟨rfl, P4, V4, A94, D94⟩
  · have hy0 : wy = 0 := hy.1 (by omega)
    have tyy := ty hy0
    refine g_iconst (q := 253) B35 dL_takes_252 rfl ?_
    refine g_goto (q := 268) B35 dL_takes_253 (by decide) ?_
    refine g_icmp_ne (t := 350) (q := 271) B35 dL_takes_268 (by decide) rfl ⟨by omega, by omega⟩ ⟨by omega, by omega⟩ (fun cq268 => absurd cq268 (by omega)) (fun cq268 => ?_)
    refine g_aload_n (q := 272) B35 dL_takes_271 rfl 11 rfl ?_
    refine g_iconst (q := 273) B35 dL_takes_272 rfl ?_
    refine g_bipush (q := 275) B35 dL_takes_273 rfl (by decide) ?_
    refine g_iconst (q := 276) B35 dL_takes_275 rfl ?_
    refine g_iconst (q := 277) B35 dL_takes_276 rfl ?_
    refine g_callN (q := 280) (m1 := 1) (c2 := 17) (As := [.ref (yA Y 72), .int (iI 2), .int (iI 6), .int (iI 0), .int (iI 0)]) (st := []) B35 dL_takes_277 rfl (k_about (Y := Y) (S := S34) hst A34 V3.1 6 ⟨by omega, by omega⟩ 0 0 (x := t2) (hx := (by rw [e3]; exact ht2))) eL_call w179 (by decide) rfl rfl (Nat.le_of_ble_eq_true rfl) (by omega) (Nat.le_trans (show 17 ≤ 40 by omega) E.2.1) (Nat.le_trans (show 6 * (17) ≤ 6 * 40 by omega) E.2.2) (fun v S96 hS96 => ?_)
    obtain ⟨rfl, A96, K96⟩ := hS96
    have D96 := PK_o2 D34 K96
    have B97 := gB_K (c := 17) B35 (Nat.le_trans (show 17 ≤ 40 by omega) E.2.1) (Nat.le_trans (show 6 * (17) ≤ 6 * 40 by omega) E.2.2)
    show gW Y (xK X (17)) S96 280 [(13, .int (iI wy)), (12, .int (iI rf)), (11, .int (iI bs)), (10, .int (iI mv)), (9, .int (iI 1)), (8, .int (iI ow)), (7, .int (iI ig)), (6, .int (iI hd)), (5, .int (iI tt)), (4, .int (iI r)), (3, .int (iI (runsF (pG P)))), (0, .ref (yA Y 72)), (1, .ref (yA Y 172)), (2, .int (iI x))] [.int (iI t2)]
    refine g_iload (q := 282) B97 dL_takes_280 rfl 0 rfl ?_
    refine g_if_ne (t := 292) (q := 285) B97 dL_takes_282 (by decide) rfl ⟨by omega, by omega⟩ (fun cq282 => absurd cq282 (by omega)) (fun cq282 => ?_)
    refine g_iconst (q := 286) B97 dL_takes_285 rfl ?_
    refine g_iload (q := 288) B97 dL_takes_286 rfl 3 rfl ?_
    refine g_isub (q := 289) B97 dL_takes_288 rfl ?_
    refine g_goto (q := 294) B97 dL_takes_289 (by decide) ?_
    refine g_icmp_ne (t := 350) (q := 297) B97 dL_takes_294 (by decide) rfl ⟨by omega, by omega⟩ ⟨by omega, by omega⟩ (fun cq294 => absurd cq294 (by omega)) (fun cq294 => ?_)
    refine g_aload_n (q := 298) B97 dL_takes_297 rfl 11 rfl ?_
    refine g_iconst (q := 299) B97 dL_takes_298 rfl ?_
    refine g_bipush (q := 301) B97 dL_takes_299 rfl (by decide) ?_
    refine g_iconst (q := 302) B97 dL_takes_301 rfl ?_
    refine g_iconst (q := 303) B97 dL_takes_302 rfl ?_
    refine g_callN (q := 306) (m1 := 1) (c2 := 18) (As := [.ref (yA Y 72), .int (iI 2), .int (iI 8), .int (iI 0), .int (iI 0)]) (st := []) B97 dL_takes_303 rfl (k_about (Y := Y) (S := S96) hst A96 V3.1 8 ⟨by omega, by omega⟩ 0 0 (x := t3) (hx := (by rw [e3]; exact ht3))) eL_call w179 (by decide) rfl rfl (Nat.le_of_ble_eq_true rfl) (by omega) (Nat.le_trans (show 18 ≤ 40 by omega) E.2.1) (Nat.le_trans (show 6 * (18) ≤ 6 * 40 by omega) E.2.2) (fun v S98 hS98 => ?_)
    obtain ⟨rfl, A98, K98⟩ := hS98
    have D98 := PK_o2 D96 K98
    have B99 := gB_K (c := 18) B97 (Nat.le_trans (show 18 ≤ 40 by omega) E.2.1) (Nat.le_trans (show 6 * (18) ≤ 6 * 40 by omega) E.2.2)
    show gW Y (xK X (18)) S98 306 [(13, .int (iI wy)), (12, .int (iI rf)), (11, .int (iI bs)), (10, .int (iI mv)), (9, .int (iI 1)), (8, .int (iI ow)), (7, .int (iI ig)), (6, .int (iI hd)), (5, .int (iI tt)), (4, .int (iI r)), (3, .int (iI (runsF (pG P)))), (0, .ref (yA Y 72)), (1, .ref (yA Y 172)), (2, .int (iI x))] [.int (iI t3)]
    refine g_iload (q := 308) B99 dL_takes_306 rfl 1 rfl ?_
    refine g_iload (q := 310) B99 dL_takes_308 rfl 0 rfl ?_
    refine g_if_ne (t := 317) (q := 313) B99 dL_takes_310 (by decide) rfl ⟨by omega, by omega⟩ (fun cq310 => absurd cq310 (by omega)) (fun cq310 => ?_)
    refine g_iconst (q := 314) B99 dL_takes_313 rfl ?_
    refine g_goto (q := 318) B99 dL_takes_314 (by decide) ?_
    refine g_iadd (q := 319) B99 dL_takes_318 rfl ?_
    refine g_eqT (st' := [.int (iI (oI (rf + 0))), .int (iI (oI t3))]) (by rw [oI_iI, oI_iI]) ?_
    refine g_icmp_ne (t := 350) (q := 322) B99 dL_takes_319 (by decide) rfl (oI_in _) (oI_in _) (fun cq319 => absurd cq319 (by exact fun z => z (congrArg oI (by omega)))) (fun cq319 => ?_)
    refine g_aload_n (q := 323) B99 dL_takes_322 rfl 11 rfl ?_
    refine g_iconst (q := 324) B99 dL_takes_323 rfl ?_
    refine g_iload (q := 326) B99 dL_takes_324 rfl 9 rfl ?_
    refine g_iconst (q := 327) B99 dL_takes_326 rfl ?_
    refine g_iconst (q := 328) B99 dL_takes_327 rfl ?_
    refine g_callN (q := 331) (m1 := 1) (c2 := 19) (As := [.ref (yA Y 72), .int (iI 5), .int (iI r), .int (iI 2), .int (iI 0)]) (st := []) B99 dL_takes_328 rfl (k_runOf (Y := Y) (S := S98) hst A98 V3.1 r ⟨by omega, by omega⟩ 2 ⟨by omega, by omega⟩ 0 (x := t8) (hx := (by rw [e3]; exact tv_own m1.1 (by rw [ht9, q9]; exact m1.2) ht8))) eL_call w179 (by decide) rfl rfl (Nat.le_of_ble_eq_true rfl) (by omega) (Nat.le_trans (show 19 ≤ 40 by omega) E.2.1) (Nat.le_trans (show 6 * (19) ≤ 6 * 40 by omega) E.2.2) (fun v S100 hS100 => ?_)
    obtain ⟨rfl, A100, K100⟩ := hS100
    have D100 := PK_o2 D98 K100
    have B101 := gB_K (c := 19) B99 (Nat.le_trans (show 19 ≤ 40 by omega) E.2.1) (Nat.le_trans (show 6 * (19) ≤ 6 * 40 by omega) E.2.2)
    show gW Y (xK X (19)) S100 331 [(13, .int (iI wy)), (12, .int (iI rf)), (11, .int (iI bs)), (10, .int (iI mv)), (9, .int (iI 1)), (8, .int (iI ow)), (7, .int (iI ig)), (6, .int (iI hd)), (5, .int (iI tt)), (4, .int (iI r)), (3, .int (iI (runsF (pG P)))), (0, .ref (yA Y 72)), (1, .ref (yA Y 172)), (2, .int (iI x))] [.int (iI t8)]
    refine g_iload (q := 333) B101 dL_takes_331 rfl 0 rfl ?_
    refine g_if_ne (t := 341) (q := 336) B101 dL_takes_333 (by decide) rfl ⟨by omega, by omega⟩ (fun cq333 => absurd cq333 (by omega)) (fun cq333 => ?_)
    refine g_iload (q := 338) B101 dL_takes_336 rfl 3 rfl ?_
    refine g_goto (q := 343) B101 dL_takes_338 (by decide) ?_
    refine g_icmp_ne (t := 350) (q := 346) B101 dL_takes_343 (by decide) rfl ⟨by omega, by omega⟩ ⟨by omega, by omega⟩ (fun cq343 => absurd cq343 (by omega)) (fun cq343 => ?_)
    refine g_iconst (q := 347) B101 dL_takes_346 rfl ?_
    refine g_goto (q := 351) B101 dL_takes_347 (by decide) ?_
    refine g_istore (q := 353) B101 dL_takes_351 rfl (by decide) (L' := [(9, .int (iI 1)), (13, .int (iI wy)), (12, .int (iI rf)), (11, .int (iI bs)), (10, .int (iI mv)), (8, .int (iI ow)), (7, .int (iI ig)), (6, .int (iI hd)), (5, .int (iI tt)), (4, .int (iI r)), (3, .int (iI (runsF (pG P)))), (0, .ref (yA Y 72)), (1, .ref (yA Y 172)), (2, .int (iI x))]) rfl ?_
    refine g_aload_n (q := 354) B101 dL_takes_353 rfl 11 rfl ?_
    refine g_iconst (q := 355) B101 dL_takes_354 rfl ?_
    refine g_iconst (q := 356) B101 dL_takes_355 rfl ?_
    refine g_iconst (q := 357) B101 dL_takes_356 rfl ?_
    refine g_iconst (q := 358) B101 dL_takes_357 rfl ?_
    refine g_callN (q := 361) (m1 := 1) (c2 := 20) (As := [.ref (yA Y 72), .int (iI 2), .int (iI 4), .int (iI 0), .int (iI 0)]) (st := []) B101 dL_takes_358 rfl (k_about (Y := Y) (S := S100) hst A100 V3.1 4 ⟨by omega, by omega⟩ 0 0 (x := gp) (hx := (by rw [e3]; exact hgp))) eL_call w179 (by decide) rfl rfl (Nat.le_of_ble_eq_true rfl) (by omega) (Nat.le_trans (show 20 ≤ 40 by omega) E.2.1) (Nat.le_trans (show 6 * (20) ≤ 6 * 40 by omega) E.2.2) (fun v S102 hS102 => ?_)
    obtain ⟨rfl, A102, K102⟩ := hS102
    have D102 := PK_o2 D100 K102
    have B103 := gB_K (c := 20) B101 (Nat.le_trans (show 20 ≤ 40 by omega) E.2.1) (Nat.le_trans (show 6 * (20) ≤ 6 * 40 by omega) E.2.2)
    show gW Y (xK X (20)) S102 361 [(9, .int (iI 1)), (13, .int (iI wy)), (12, .int (iI rf)), (11, .int (iI bs)), (10, .int (iI mv)), (8, .int (iI ow)), (7, .int (iI ig)), (6, .int (iI hd)), (5, .int (iI tt)), (4, .int (iI r)), (3, .int (iI (runsF (pG P)))), (0, .ref (yA Y 72)), (1, .ref (yA Y 172)), (2, .int (iI x))] [.int (iI gp)]
    refine g_istore (q := 363) B103 dL_takes_361 rfl (by decide) (L' := [(14, .int (iI gp)), (9, .int (iI 1)), (13, .int (iI wy)), (12, .int (iI rf)), (11, .int (iI bs)), (10, .int (iI mv)), (8, .int (iI ow)), (7, .int (iI ig)), (6, .int (iI hd)), (5, .int (iI tt)), (4, .int (iI r)), (3, .int (iI (runsF (pG P)))), (0, .ref (yA Y 72)), (1, .ref (yA Y 172)), (2, .int (iI x))]) rfl ?_
    refine g_iload (q := 365) B103 dL_takes_363 rfl 1 rfl ?_
    refine g_if_eq (t := 433) (q := 368) B103 dL_takes_365 (by decide) rfl ⟨by omega, by omega⟩ (fun cq365 => absurd cq365 (by decide)) (fun cq365 => ?_)
    refine g_aload_n (q := 369) B103 dL_takes_368 rfl 12 rfl ?_
    refine g_bipush (q := 371) B103 dL_takes_369 rfl (by decide) ?_
    refine g_iconst (q := 372) B103 dL_takes_371 rfl ?_
    refine g_iconst (q := 373) B103 dL_takes_372 rfl ?_
    refine g_iconst (q := 374) B103 dL_takes_373 rfl ?_
    refine g_callN (q := 377) (m1 := 1) (c2 := 21) (As := [.ref (yA Y 72), .int (iI 15), .int (iI 0), .int (iI 0), .int (iI 0)]) (st := []) B103 dL_takes_374 rfl (k_undo (Y := Y) (S := S102) hst A102 V3.1  0 0 0 (x := pK P3 - 1) (hx := tv_0 (cd_undo0 k3)) (P' := P4) (hP := (if_pos (cd_undo0 k3)).trans hP4)) eL_call w179 (by decide) rfl rfl (Nat.le_of_ble_eq_true rfl) (by omega) (Nat.le_trans (show 21 ≤ 40 by omega) E.2.1) (Nat.le_trans (show 6 * (21) ≤ 6 * 40 by omega) E.2.2) (fun v S104 hS104 => ?_)
    obtain ⟨rfl, A104, K104⟩ := hS104
    have D104 := PK_o2 D102 K104
    have B105 := gB_K (c := 21) B103 (Nat.le_trans (show 21 ≤ 40 by omega) E.2.1) (Nat.le_trans (show 6 * (21) ≤ 6 * 40 by omega) E.2.2)
    show gW Y (xK X (21)) S104 377 [(14, .int (iI gp)), (9, .int (iI 1)), (13, .int (iI wy)), (12, .int (iI rf)), (11, .int (iI bs)), (10, .int (iI mv)), (8, .int (iI ow)), (7, .int (iI ig)), (6, .int (iI hd)), (5, .int (iI tt)), (4, .int (iI r)), (3, .int (iI (runsF (pG P)))), (0, .ref (yA Y 72)), (1, .ref (yA Y 172)), (2, .int (iI x))] [.int (iI (pK P3 - 1))]
    refine g_callN (q := 380) (m1 := 0) (c2 := 21) (As := [.int (iI (pK P3 - 1))]) (st := []) B105 dL_takes_377 rfl (c_thrown (Y := Y) (S := S104) (pK P3 - 1) ⟨by omega, by omega⟩ (by omega)) eL_thrown w937 (by decide) rfl rfl (Nat.le_of_ble_eq_true rfl) (by omega) (Nat.le_trans (show 21 ≤ 40 by omega) E.2.1) (Nat.le_trans (show 6 * (21) ≤ 6 * 40 by omega) E.2.2) (fun v S106 hS106 => ?_)
    obtain ⟨rfl, eS106⟩ := hS106
    rw [eS106]
    show gW Y (xK X (21)) S104 380 [(14, .int (iI gp)), (9, .int (iI 1)), (13, .int (iI wy)), (12, .int (iI rf)), (11, .int (iI bs)), (10, .int (iI mv)), (8, .int (iI ow)), (7, .int (iI ig)), (6, .int (iI hd)), (5, .int (iI tt)), (4, .int (iI r)), (3, .int (iI (runsF (pG P)))), (0, .ref (yA Y 72)), (1, .ref (yA Y 172)), (2, .int (iI x))] [.int (iI 0)]
    refine g_if_ne (t := 433) (q := 383) B105 dL_takes_380 (by decide) rfl ⟨by omega, by omega⟩ (fun cq380 => absurd cq380 (by decide)) (fun cq380 => ?_)
    refine g_aload_n (q := 384) B105 dL_takes_383 rfl 13 rfl ?_
    refine g_bipush (q := 386) B105 dL_takes_384 rfl (by decide) ?_
    refine g_iconst (q := 387) B105 dL_takes_386 rfl ?_
    refine g_iconst (q := 388) B105 dL_takes_387 rfl ?_
    refine g_iconst (q := 389) B105 dL_takes_388 rfl ?_
    refine g_callN (q := 392) (m1 := 1) (c2 := 22) (As := [.ref (yA Y 172), .int (iI 15), .int (iI 0), .int (iI 0), .int (iI 0)]) (st := []) B105 dL_takes_389 rfl (gN_sw (k_undo (Y := ySw Y) (S := sS S104) hst D104 V3.1  0 0 0 (x := pK P3 - 1) (hx := tv_0 (cd_undo0 k3)) (P' := P4) (hP := (if_pos (cd_undo0 k3)).trans hP4))) eL_call w179 (by decide) rfl rfl (Nat.le_of_ble_eq_true rfl) (by omega) (Nat.le_trans (show 22 ≤ 40 by omega) E.2.1) (Nat.le_trans (show 6 * (22) ≤ 6 * 40 by omega) E.2.2) (fun v S107 hS107 => ?_)
    obtain ⟨rfl, D107, K107⟩ := hS107
    have A107 := PK_o1 A104 K107
    have B108 := gB_K (c := 22) B105 (Nat.le_trans (show 22 ≤ 40 by omega) E.2.1) (Nat.le_trans (show 6 * (22) ≤ 6 * 40 by omega) E.2.2)
    show gW Y (xK X (22)) S107 392 [(14, .int (iI gp)), (9, .int (iI 1)), (13, .int (iI wy)), (12, .int (iI rf)), (11, .int (iI bs)), (10, .int (iI mv)), (8, .int (iI ow)), (7, .int (iI ig)), (6, .int (iI hd)), (5, .int (iI tt)), (4, .int (iI r)), (3, .int (iI (runsF (pG P)))), (0, .ref (yA Y 72)), (1, .ref (yA Y 172)), (2, .int (iI x))] [.int (iI (pK P3 - 1))]
    refine g_callN (q := 395) (m1 := 0) (c2 := 22) (As := [.int (iI (pK P3 - 1))]) (st := []) B108 dL_takes_392 rfl (c_thrown (Y := Y) (S := S107) (pK P3 - 1) ⟨by omega, by omega⟩ (by omega)) eL_thrown w937 (by decide) rfl rfl (Nat.le_of_ble_eq_true rfl) (by omega) (Nat.le_trans (show 22 ≤ 40 by omega) E.2.1) (Nat.le_trans (show 6 * (22) ≤ 6 * 40 by omega) E.2.2) (fun v S109 hS109 => ?_)
    obtain ⟨rfl, eS109⟩ := hS109
    rw [eS109]
    show gW Y (xK X (22)) S107 395 [(14, .int (iI gp)), (9, .int (iI 1)), (13, .int (iI wy)), (12, .int (iI rf)), (11, .int (iI bs)), (10, .int (iI mv)), (8, .int (iI ow)), (7, .int (iI ig)), (6, .int (iI hd)), (5, .int (iI tt)), (4, .int (iI r)), (3, .int (iI (runsF (pG P)))), (0, .ref (yA Y 72)), (1, .ref (yA Y 172)), (2, .int (iI x))] [.int (iI 0)]
    refine g_if_ne (t := 433) (q := 398) B108 dL_takes_395 (by decide) rfl ⟨by omega, by omega⟩ (fun cq395 => absurd cq395 (by decide)) (fun cq395 => ?_)
    refine g_iload (q := 400) B108 dL_takes_398 rfl 4 rfl ?_
    refine g_iconst (q := 401) B108 dL_takes_400 rfl ?_
    refine g_icmp_ne (t := 408) (q := 404) B108 dL_takes_401 (by decide) rfl ⟨by omega, by omega⟩ ⟨by omega, by omega⟩ (fun cq401 => ?_) (fun cq401 => ?_)
    · have hbz : bs ≠ -1 := by omega
      have brz := br hbz
      refine g_iconst (q := 409) B108 dL_takes_408 rfl ?_
      refine g_aload_n (q := 410) B108 dL_takes_409 rfl 12 rfl ?_
      refine g_iconst (q := 411) B108 dL_takes_410 rfl ?_
      refine g_bipush (q := 413) B108 dL_takes_411 rfl (by decide) ?_
      refine g_iconst (q := 414) B108 dL_takes_413 rfl ?_
      refine g_iconst (q := 415) B108 dL_takes_414 rfl ?_
      refine g_callN (q := 418) (m1 := 1) (c2 := 23) (As := [.ref (yA Y 72), .int (iI 2), .int (iI 7), .int (iI 0), .int (iI 0)]) (st := [.int (iI 0)]) B108 dL_takes_415 rfl (k_about (Y := Y) (S := S107) hst A107 V4.1 7 ⟨by omega, by omega⟩ 0 0 (x := nb) (hx := (by rw [e4]; exact hnb))) eL_call w179 (by decide) rfl rfl (Nat.le_of_ble_eq_true rfl) (by omega) (Nat.le_trans (show 23 ≤ 40 by omega) E.2.1) (Nat.le_trans (show 6 * (23) ≤ 6 * 40 by omega) E.2.2) (fun v S110 hS110 => ?_)
      obtain ⟨rfl, A110, K110⟩ := hS110
      have D110 := PK_o2 D107 K110
      have B111 := gB_K (c := 23) B108 (Nat.le_trans (show 23 ≤ 40 by omega) E.2.1) (Nat.le_trans (show 6 * (23) ≤ 6 * 40 by omega) E.2.2)
      show gW Y (xK X (23)) S110 418 [(14, .int (iI gp)), (9, .int (iI 1)), (13, .int (iI wy)), (12, .int (iI rf)), (11, .int (iI bs)), (10, .int (iI mv)), (8, .int (iI ow)), (7, .int (iI ig)), (6, .int (iI hd)), (5, .int (iI tt)), (4, .int (iI r)), (3, .int (iI (runsF (pG P)))), (0, .ref (yA Y 72)), (1, .ref (yA Y 172)), (2, .int (iI x))] [.int (iI nb), .int (iI 0)]
      refine g_if_ne (t := 425) (q := 421) B111 dL_takes_418 (by decide) rfl ⟨by omega, by omega⟩ (fun cq418 => ?_) (fun cq418 => absurd cq418 (by omega))
      refine g_iconst (q := 426) B111 dL_takes_425 rfl ?_
      refine g_icmp_ne (t := 433) (q := 429) B111 dL_takes_426 (by decide) rfl ⟨by omega, by omega⟩ ⟨by omega, by omega⟩ (fun cq426 => absurd cq426 (by decide)) (fun cq426 => ?_)
      refine g_iconst (q := 430) B111 dL_takes_429 rfl ?_
      refine g_goto (q := 434) B111 dL_takes_430 (by decide) ?_
      refine g_istore (q := 436) B111 dL_takes_434 rfl (by decide) (L' := [(9, .int (iI 1)), (14, .int (iI gp)), (13, .int (iI wy)), (12, .int (iI rf)), (11, .int (iI bs)), (10, .int (iI mv)), (8, .int (iI ow)), (7, .int (iI ig)), (6, .int (iI hd)), (5, .int (iI tt)), (4, .int (iI r)), (3, .int (iI (runsF (pG P)))), (0, .ref (yA Y 72)), (1, .ref (yA Y 172)), (2, .int (iI x))]) rfl ?_
      refine g_iload (q := 438) B111 dL_takes_436 rfl 4 rfl ?_
      refine g_iconst (q := 439) B111 dL_takes_438 rfl ?_
      refine g_icmp_eq (t := 506) (q := 442) B111 dL_takes_439 (by decide) rfl ⟨by omega, by omega⟩ ⟨by omega, by omega⟩ (fun cq439 => absurd cq439 (by omega)) (fun cq439 => ?_)
      refine g_iload (q := 444) B111 dL_takes_442 rfl 0 rfl ?_
      refine g_if_eq (t := 506) (q := 447) B111 dL_takes_444 (by decide) rfl ⟨by omega, by omega⟩ (fun cq444 => absurd cq444 (by decide)) (fun cq444 => ?_)
      refine g_aload_n (q := 448) B111 dL_takes_447 rfl 12 rfl ?_
      refine g_bipush (q := 450) B111 dL_takes_448 rfl (by decide) ?_
      refine g_iload (q := 452) B111 dL_takes_450 rfl 4 rfl ?_
      refine g_iload (q := 454) B111 dL_takes_452 rfl 5 rfl ?_
      refine g_iconst (q := 455) B111 dL_takes_454 rfl ?_
      refine g_callN (q := 458) (m1 := 1) (c2 := 24) (As := [.ref (yA Y 72), .int (iI 19), .int (iI bs), .int (iI mv), .int (iI 0)]) (st := []) B111 dL_takes_455 rfl (k_ifGiven (Y := Y) (S := S110) hst A110 V4.1 bs ⟨by omega, by omega⟩ mv ⟨by omega, by omega⟩ 0 (x := ls) (hx := (by rw [e4]; exact tv_give (br hbz).1.1 (br hbz).1.2 (by omega) (by rw [← hmv]; exact hls)))) eL_call w179 (by decide) rfl rfl (Nat.le_of_ble_eq_true rfl) (by omega) (Nat.le_trans (show 24 ≤ 40 by omega) E.2.1) (Nat.le_trans (show 6 * (24) ≤ 6 * 40 by omega) E.2.2) (fun v S112 hS112 => ?_)
      obtain ⟨rfl, A112, K112⟩ := hS112
      have D112 := PK_o2 D110 K112
      have B113 := gB_K (c := 24) B111 (Nat.le_trans (show 24 ≤ 40 by omega) E.2.1) (Nat.le_trans (show 6 * (24) ≤ 6 * 40 by omega) E.2.2)
      show gW Y (xK X (24)) S112 458 [(9, .int (iI 1)), (14, .int (iI gp)), (13, .int (iI wy)), (12, .int (iI rf)), (11, .int (iI bs)), (10, .int (iI mv)), (8, .int (iI ow)), (7, .int (iI ig)), (6, .int (iI hd)), (5, .int (iI tt)), (4, .int (iI r)), (3, .int (iI (runsF (pG P)))), (0, .ref (yA Y 72)), (1, .ref (yA Y 172)), (2, .int (iI x))] [.int (iI ls)]
      refine g_istore (q := 460) B113 dL_takes_458 rfl (by decide) (L' := [(15, .int (iI ls)), (9, .int (iI 1)), (14, .int (iI gp)), (13, .int (iI wy)), (12, .int (iI rf)), (11, .int (iI bs)), (10, .int (iI mv)), (8, .int (iI ow)), (7, .int (iI ig)), (6, .int (iI hd)), (5, .int (iI tt)), (4, .int (iI r)), (3, .int (iI (runsF (pG P)))), (0, .ref (yA Y 72)), (1, .ref (yA Y 172)), (2, .int (iI x))]) rfl ?_
      refine g_aload_n (q := 461) B113 dL_takes_460 rfl 13 rfl ?_
      refine g_iconst (q := 462) B113 dL_takes_461 rfl ?_
      refine g_iload (q := 464) B113 dL_takes_462 rfl 5 rfl ?_
      refine g_iconst (q := 465) B113 dL_takes_464 rfl ?_
      refine g_iconst (q := 466) B113 dL_takes_465 rfl ?_
      refine g_callN (q := 469) (m1 := 1) (c2 := 25) (As := [.ref (yA Y 72), .int (iI 5), .int (iI bs), .int (iI 2), .int (iI 0)]) (st := []) B113 dL_takes_466 rfl (k_runOf (Y := Y) (S := S112) hst A112 V4.1 bs ⟨by omega, by omega⟩ 2 ⟨by omega, by omega⟩ 0 (x := (-1)) (hx := (by rw [e4]; exact tv_own (br hbz).1.1 (br hbz).1.2 (br hbz).2.1))) eL_call w179 (by decide) rfl rfl (Nat.le_of_ble_eq_true rfl) (by omega) (Nat.le_trans (show 25 ≤ 40 by omega) E.2.1) (Nat.le_trans (show 6 * (25) ≤ 6 * 40 by omega) E.2.2) (fun v S114 hS114 => ?_)
      obtain ⟨rfl, A114, K114⟩ := hS114
      have D114 := PK_o2 D112 K114
      have B115 := gB_K (c := 25) B113 (Nat.le_trans (show 25 ≤ 40 by omega) E.2.1) (Nat.le_trans (show 6 * (25) ≤ 6 * 40 by omega) E.2.2)
      show gW Y (xK X (25)) S114 469 [(15, .int (iI ls)), (9, .int (iI 1)), (14, .int (iI gp)), (13, .int (iI wy)), (12, .int (iI rf)), (11, .int (iI bs)), (10, .int (iI mv)), (8, .int (iI ow)), (7, .int (iI ig)), (6, .int (iI hd)), (5, .int (iI tt)), (4, .int (iI r)), (3, .int (iI (runsF (pG P)))), (0, .ref (yA Y 72)), (1, .ref (yA Y 172)), (2, .int (iI x))] [.int (iI ((-1)))]
      refine g_iconst (q := 470) B115 dL_takes_469 rfl ?_
      refine g_icmp_ne (t := 503) (q := 473) B115 dL_takes_470 (by decide) rfl ⟨by omega, by omega⟩ ⟨by omega, by omega⟩ (fun cq470 => absurd cq470 (by decide)) (fun cq470 => ?_)
      refine g_iload (q := 475) B115 dL_takes_473 rfl 3 rfl ?_
      refine g_if_gt (t := 499) (q := 478) B115 dL_takes_475 (by decide) rfl ⟨by omega, by omega⟩ (fun cq475 => absurd cq475 (by omega)) (fun cq475 => ?_)
      refine g_iload (q := 480) B115 dL_takes_478 rfl 2 rfl ?_
      refine g_iload (q := 482) B115 dL_takes_480 rfl 0 rfl ?_
      refine g_icmp_gt (t := 499) (q := 485) B115 dL_takes_482 (by decide) rfl ⟨by omega, by omega⟩ ⟨by omega, by omega⟩ (fun cq482 => ?_) (fun cq482 => ?_)
      · refine g_iconst (q := 500) B115 dL_takes_499 rfl ?_
        refine g_goto (q := 504) B115 dL_takes_500 (by decide) ?_
        refine g_istore (q := 506) B115 dL_takes_504 rfl (by decide) (L' := [(9, .int (iI 1)), (15, .int (iI ls)), (14, .int (iI gp)), (13, .int (iI wy)), (12, .int (iI rf)), (11, .int (iI bs)), (10, .int (iI mv)), (8, .int (iI ow)), (7, .int (iI ig)), (6, .int (iI hd)), (5, .int (iI tt)), (4, .int (iI r)), (3, .int (iI (runsF (pG P)))), (0, .ref (yA Y 72)), (1, .ref (yA Y 172)), (2, .int (iI x))]) rfl ?_
        refine g_iload (q := 508) B115 dL_takes_506 rfl 0 rfl ?_
        refine g_if_eq (t := 542) (q := 511) B115 dL_takes_508 (by decide) rfl ⟨by omega, by omega⟩ (fun cq508 => absurd cq508 (by decide)) (fun cq508 => ?_)
        refine g_aload_n (q := 512) B115 dL_takes_511 rfl 13 rfl ?_
        refine g_iconst (q := 513) B115 dL_takes_512 rfl ?_
        refine g_bipush (q := 515) B115 dL_takes_513 rfl (by decide) ?_
        refine g_iconst (q := 516) B115 dL_takes_515 rfl ?_
        refine g_iconst (q := 517) B115 dL_takes_516 rfl ?_
        refine g_callN (q := 520) (m1 := 1) (c2 := 26) (As := [.ref (yA Y 72), .int (iI 2), .int (iI 6), .int (iI 0), .int (iI 0)]) (st := []) B115 dL_takes_517 rfl (k_about (Y := Y) (S := S114) hst A114 V4.1 6 ⟨by omega, by omega⟩ 0 0 (x := mv) (hx := (by rw [e4]; exact hmv))) eL_call w179 (by decide) rfl rfl (Nat.le_of_ble_eq_true rfl) (by omega) (Nat.le_trans (show 26 ≤ 40 by omega) E.2.1) (Nat.le_trans (show 6 * (26) ≤ 6 * 40 by omega) E.2.2) (fun v S116 hS116 => ?_)
        obtain ⟨rfl, A116, K116⟩ := hS116
        have D116 := PK_o2 D114 K116
        have B117 := gB_K (c := 26) B115 (Nat.le_trans (show 26 ≤ 40 by omega) E.2.1) (Nat.le_trans (show 6 * (26) ≤ 6 * 40 by omega) E.2.2)
        show gW Y (xK X (26)) S116 520 [(9, .int (iI 1)), (15, .int (iI ls)), (14, .int (iI gp)), (13, .int (iI wy)), (12, .int (iI rf)), (11, .int (iI bs)), (10, .int (iI mv)), (8, .int (iI ow)), (7, .int (iI ig)), (6, .int (iI hd)), (5, .int (iI tt)), (4, .int (iI r)), (3, .int (iI (runsF (pG P)))), (0, .ref (yA Y 72)), (1, .ref (yA Y 172)), (2, .int (iI x))] [.int (iI mv)]
        refine g_iload (q := 522) B117 dL_takes_520 rfl 6 rfl ?_
        refine g_icmp_ne (t := 542) (q := 525) B117 dL_takes_522 (by decide) rfl ⟨by omega, by omega⟩ ⟨by omega, by omega⟩ (fun cq522 => absurd cq522 (by omega)) (fun cq522 => ?_)
        refine g_aload_n (q := 526) B117 dL_takes_525 rfl 13 rfl ?_
        refine g_iconst (q := 527) B117 dL_takes_526 rfl ?_
        refine g_iconst (q := 528) B117 dL_takes_527 rfl ?_
        refine g_iconst (q := 529) B117 dL_takes_528 rfl ?_
        refine g_iconst (q := 530) B117 dL_takes_529 rfl ?_
        refine g_callN (q := 533) (m1 := 1) (c2 := 27) (As := [.ref (yA Y 72), .int (iI 2), .int (iI 4), .int (iI 0), .int (iI 0)]) (st := []) B117 dL_takes_530 rfl (k_about (Y := Y) (S := S116) hst A116 V4.1 4 ⟨by omega, by omega⟩ 0 0 (x := hd) (hx := (by rw [e4]; exact hhd))) eL_call w179 (by decide) rfl rfl (Nat.le_of_ble_eq_true rfl) (by omega) (Nat.le_trans (show 27 ≤ 40 by omega) E.2.1) (Nat.le_trans (show 6 * (27) ≤ 6 * 40 by omega) E.2.2) (fun v S118 hS118 => ?_)
        obtain ⟨rfl, A118, K118⟩ := hS118
        have D118 := PK_o2 D116 K118
        have B119 := gB_K (c := 27) B117 (Nat.le_trans (show 27 ≤ 40 by omega) E.2.1) (Nat.le_trans (show 6 * (27) ≤ 6 * 40 by omega) E.2.2)
        show gW Y (xK X (27)) S118 533 [(9, .int (iI 1)), (15, .int (iI ls)), (14, .int (iI gp)), (13, .int (iI wy)), (12, .int (iI rf)), (11, .int (iI bs)), (10, .int (iI mv)), (8, .int (iI ow)), (7, .int (iI ig)), (6, .int (iI hd)), (5, .int (iI tt)), (4, .int (iI r)), (3, .int (iI (runsF (pG P)))), (0, .ref (yA Y 72)), (1, .ref (yA Y 172)), (2, .int (iI x))] [.int (iI hd)]
        refine g_iload (q := 535) B119 dL_takes_533 rfl 9 rfl ?_
        refine g_icmp_ne (t := 542) (q := 538) B119 dL_takes_535 (by decide) rfl ⟨by omega, by omega⟩ ⟨by omega, by omega⟩ (fun cq535 => absurd cq535 (by omega)) (fun cq535 => ?_)
        refine g_iconst (q := 539) B119 dL_takes_538 rfl ?_
        refine g_goto (q := 543) B119 dL_takes_539 (by decide) ?_
        exact gn_zret B119 E (by omega) dL_takes_543 rfl (by decide) ⟨rfl, P4, V4, A118, D118⟩
      · refine g_iload (q := 487) B115 dL_takes_485 rfl 2 rfl ?_
        refine g_iload (q := 489) B115 dL_takes_487 rfl 0 rfl ?_
        refine g_icmp_ne (t := 503) (q := 492) B115 dL_takes_489 (by decide) rfl ⟨by omega, by omega⟩ ⟨by omega, by omega⟩ (fun cq489 => absurd cq489 (by omega)) (fun cq489 => ?_)
        refine g_iload (q := 494) B115 dL_takes_492 rfl 11 rfl ?_
        refine g_iload (q := 496) B115 dL_takes_494 rfl 5 rfl ?_
        refine g_icmp_lt (t := 503) (q := 499) B115 dL_takes_496 (by decide) rfl ⟨by omega, by omega⟩ ⟨by omega, by omega⟩ (fun cq496 => absurd cq496 (by omega)) (fun cq496 => ?_)
        refine g_iconst (q := 500) B115 dL_takes_499 rfl ?_
        refine g_goto (q := 504) B115 dL_takes_500 (by decide) ?_
        refine g_istore (q := 506) B115 dL_takes_504 rfl (by decide) (L' := [(9, .int (iI 1)), (15, .int (iI ls)), (14, .int (iI gp)), (13, .int (iI wy)), (12, .int (iI rf)), (11, .int (iI bs)), (10, .int (iI mv)), (8, .int (iI ow)), (7, .int (iI ig)), (6, .int (iI hd)), (5, .int (iI tt)), (4, .int (iI r)), (3, .int (iI (runsF (pG P)))), (0, .ref (yA Y 72)), (1, .ref (yA Y 172)), (2, .int (iI x))]) rfl ?_
        refine g_iload (q := 508) B115 dL_takes_506 rfl 0 rfl ?_
        refine g_if_eq (t := 542) (q := 511) B115 dL_takes_508 (by decide) rfl ⟨by omega, by omega⟩ (fun cq508 => absurd cq508 (by decide)) (fun cq508 => ?_)
        refine g_aload_n (q := 512) B115 dL_takes_511 rfl 13 rfl ?_
        refine g_iconst (q := 513) B115 dL_takes_512 rfl ?_
        refine g_bipush (q := 515) B115 dL_takes_513 rfl (by decide) ?_
        refine g_iconst (q := 516) B115 dL_takes_515 rfl ?_
        refine g_iconst (q := 517) B115 dL_takes_516 rfl ?_
        refine g_callN (q := 520) (m1 := 1) (c2 := 26) (As := [.ref (yA Y 72), .int (iI 2), .int (iI 6), .int (iI 0), .int (iI 0)]) (st := []) B115 dL_takes_517 rfl (k_about (Y := Y) (S := S114) hst A114 V4.1 6 ⟨by omega, by omega⟩ 0 0 (x := mv) (hx := (by rw [e4]; exact hmv))) eL_call w179 (by decide) rfl rfl (Nat.le_of_ble_eq_true rfl) (by omega) (Nat.le_trans (show 26 ≤ 40 by omega) E.2.1) (Nat.le_trans (show 6 * (26) ≤ 6 * 40 by omega) E.2.2) (fun v S120 hS120 => ?_)
        obtain ⟨rfl, A120, K120⟩ := hS120
        have D120 := PK_o2 D114 K120
        have B121 := gB_K (c := 26) B115 (Nat.le_trans (show 26 ≤ 40 by omega) E.2.1) (Nat.le_trans (show 6 * (26) ≤ 6 * 40 by omega) E.2.2)
        show gW Y (xK X (26)) S120 520 [(9, .int (iI 1)), (15, .int (iI ls)), (14, .int (iI gp)), (13, .int (iI wy)), (12, .int (iI rf)), (11, .int (iI bs)), (10, .int (iI mv)), (8, .int (iI ow)), (7, .int (iI ig)), (6, .int (iI hd)), (5, .int (iI tt)), (4, .int (iI r)), (3, .int (iI (runsF (pG P)))), (0, .ref (yA Y 72)), (1, .ref (yA Y 172)), (2, .int (iI x))] [.int (iI mv)]
        refine g_iload (q := 522) B121 dL_takes_520 rfl 6 rfl ?_
        refine g_icmp_ne (t := 542) (q := 525) B121 dL_takes_522 (by decide) rfl ⟨by omega, by omega⟩ ⟨by omega, by omega⟩ (fun cq522 => absurd cq522 (by omega)) (fun cq522 => ?_)
        refine g_aload_n (q := 526) B121 dL_takes_525 rfl 13 rfl ?_
        refine g_iconst (q := 527) B121 dL_takes_526 rfl ?_
        refine g_iconst (q := 528) B121 dL_takes_527 rfl ?_
        refine g_iconst (q := 529) B121 dL_takes_528 rfl ?_
        refine g_iconst (q := 530) B121 dL_takes_529 rfl ?_
        refine g_callN (q := 533) (m1 := 1) (c2 := 27) (As := [.ref (yA Y 72), .int (iI 2), .int (iI 4), .int (iI 0), .int (iI 0)]) (st := []) B121 dL_takes_530 rfl (k_about (Y := Y) (S := S120) hst A120 V4.1 4 ⟨by omega, by omega⟩ 0 0 (x := hd) (hx := (by rw [e4]; exact hhd))) eL_call w179 (by decide) rfl rfl (Nat.le_of_ble_eq_true rfl) (by omega) (Nat.le_trans (show 27 ≤ 40 by omega) E.2.1) (Nat.le_trans (show 6 * (27) ≤ 6 * 40 by omega) E.2.2) (fun v S122 hS122 => ?_)
        obtain ⟨rfl, A122, K122⟩ := hS122
        have D122 := PK_o2 D120 K122
        have B123 := gB_K (c := 27) B121 (Nat.le_trans (show 27 ≤ 40 by omega) E.2.1) (Nat.le_trans (show 6 * (27) ≤ 6 * 40 by omega) E.2.2)
        show gW Y (xK X (27)) S122 533 [(9, .int (iI 1)), (15, .int (iI ls)), (14, .int (iI gp)), (13, .int (iI wy)), (12, .int (iI rf)), (11, .int (iI bs)), (10, .int (iI mv)), (8, .int (iI ow)), (7, .int (iI ig)), (6, .int (iI hd)), (5, .int (iI tt)), (4, .int (iI r)), (3, .int (iI (runsF (pG P)))), (0, .ref (yA Y 72)), (1, .ref (yA Y 172)), (2, .int (iI x))] [.int (iI hd)]
        refine g_iload (q := 535) B123 dL_takes_533 rfl 9 rfl ?_
        refine g_icmp_ne (t := 542) (q := 538) B123 dL_takes_535 (by decide) rfl ⟨by omega, by omega⟩ ⟨by omega, by omega⟩ (fun cq535 => absurd cq535 (by omega)) (fun cq535 => ?_)
        refine g_iconst (q := 539) B123 dL_takes_538 rfl ?_
        refine g_goto (q := 543) B123 dL_takes_539 (by decide) ?_
        exact gn_zret B123 E (by omega) dL_takes_543 rfl (by decide) ⟨rfl, P4, V4, A122, D122⟩
    · refine g_iconst (q := 405) B108 dL_takes_404 rfl ?_
      refine g_goto (q := 409) B108 dL_takes_405 (by decide) ?_
      refine g_aload_n (q := 410) B108 dL_takes_409 rfl 12 rfl ?_
      refine g_iconst (q := 411) B108 dL_takes_410 rfl ?_
      refine g_bipush (q := 413) B108 dL_takes_411 rfl (by decide) ?_
      refine g_iconst (q := 414) B108 dL_takes_413 rfl ?_
      refine g_iconst (q := 415) B108 dL_takes_414 rfl ?_
      refine g_callN (q := 418) (m1 := 1) (c2 := 23) (As := [.ref (yA Y 72), .int (iI 2), .int (iI 7), .int (iI 0), .int (iI 0)]) (st := [.int (iI 1)]) B108 dL_takes_415 rfl (k_about (Y := Y) (S := S107) hst A107 V4.1 7 ⟨by omega, by omega⟩ 0 0 (x := nb) (hx := (by rw [e4]; exact hnb))) eL_call w179 (by decide) rfl rfl (Nat.le_of_ble_eq_true rfl) (by omega) (Nat.le_trans (show 23 ≤ 40 by omega) E.2.1) (Nat.le_trans (show 6 * (23) ≤ 6 * 40 by omega) E.2.2) (fun v S124 hS124 => ?_)
      obtain ⟨rfl, A124, K124⟩ := hS124
      have D124 := PK_o2 D107 K124
      have B125 := gB_K (c := 23) B108 (Nat.le_trans (show 23 ≤ 40 by omega) E.2.1) (Nat.le_trans (show 6 * (23) ≤ 6 * 40 by omega) E.2.2)
      show gW Y (xK X (23)) S124 418 [(14, .int (iI gp)), (9, .int (iI 1)), (13, .int (iI wy)), (12, .int (iI rf)), (11, .int (iI bs)), (10, .int (iI mv)), (8, .int (iI ow)), (7, .int (iI ig)), (6, .int (iI hd)), (5, .int (iI tt)), (4, .int (iI r)), (3, .int (iI (runsF (pG P)))), (0, .ref (yA Y 72)), (1, .ref (yA Y 172)), (2, .int (iI x))] [.int (iI nb), .int (iI 1)]
      refine g_if_ne (t := 425) (q := 421) B125 dL_takes_418 (by decide) rfl ⟨by omega, by omega⟩ (fun cq418 => absurd cq418 (by omega)) (fun cq418 => ?_)
      refine g_iconst (q := 422) B125 dL_takes_421 rfl ?_
      refine g_goto (q := 426) B125 dL_takes_422 (by decide) ?_
      refine g_icmp_ne (t := 433) (q := 429) B125 dL_takes_426 (by decide) rfl ⟨by omega, by omega⟩ ⟨by omega, by omega⟩ (fun cq426 => absurd cq426 (by decide)) (fun cq426 => ?_)
      refine g_iconst (q := 430) B125 dL_takes_429 rfl ?_
      refine g_goto (q := 434) B125 dL_takes_430 (by decide) ?_
      refine g_istore (q := 436) B125 dL_takes_434 rfl (by decide) (L' := [(9, .int (iI 1)), (14, .int (iI gp)), (13, .int (iI wy)), (12, .int (iI rf)), (11, .int (iI bs)), (10, .int (iI mv)), (8, .int (iI ow)), (7, .int (iI ig)), (6, .int (iI hd)), (5, .int (iI tt)), (4, .int (iI r)), (3, .int (iI (runsF (pG P)))), (0, .ref (yA Y 72)), (1, .ref (yA Y 172)), (2, .int (iI x))]) rfl ?_
      refine g_iload (q := 438) B125 dL_takes_436 rfl 4 rfl ?_
      refine g_iconst (q := 439) B125 dL_takes_438 rfl ?_
      refine g_icmp_eq (t := 506) (q := 442) B125 dL_takes_439 (by decide) rfl ⟨by omega, by omega⟩ ⟨by omega, by omega⟩ (fun cq439 => ?_) (fun cq439 => absurd cq439 (by omega))
      refine g_iload (q := 508) B125 dL_takes_506 rfl 0 rfl ?_
      refine g_if_eq (t := 542) (q := 511) B125 dL_takes_508 (by decide) rfl ⟨by omega, by omega⟩ (fun cq508 => absurd cq508 (by decide)) (fun cq508 => ?_)
      refine g_aload_n (q := 512) B125 dL_takes_511 rfl 12 rfl ?_
      refine g_iconst (q := 513) B125 dL_takes_512 rfl ?_
      refine g_bipush (q := 515) B125 dL_takes_513 rfl (by decide) ?_
      refine g_iconst (q := 516) B125 dL_takes_515 rfl ?_
      refine g_iconst (q := 517) B125 dL_takes_516 rfl ?_
      refine g_callN (q := 520) (m1 := 1) (c2 := 24) (As := [.ref (yA Y 72), .int (iI 2), .int (iI 6), .int (iI 0), .int (iI 0)]) (st := []) B125 dL_takes_517 rfl (k_about (Y := Y) (S := S124) hst A124 V4.1 6 ⟨by omega, by omega⟩ 0 0 (x := mv) (hx := (by rw [e4]; exact hmv))) eL_call w179 (by decide) rfl rfl (Nat.le_of_ble_eq_true rfl) (by omega) (Nat.le_trans (show 24 ≤ 40 by omega) E.2.1) (Nat.le_trans (show 6 * (24) ≤ 6 * 40 by omega) E.2.2) (fun v S126 hS126 => ?_)
      obtain ⟨rfl, A126, K126⟩ := hS126
      have D126 := PK_o2 D124 K126
      have B127 := gB_K (c := 24) B125 (Nat.le_trans (show 24 ≤ 40 by omega) E.2.1) (Nat.le_trans (show 6 * (24) ≤ 6 * 40 by omega) E.2.2)
      show gW Y (xK X (24)) S126 520 [(9, .int (iI 1)), (14, .int (iI gp)), (13, .int (iI wy)), (12, .int (iI rf)), (11, .int (iI bs)), (10, .int (iI mv)), (8, .int (iI ow)), (7, .int (iI ig)), (6, .int (iI hd)), (5, .int (iI tt)), (4, .int (iI r)), (3, .int (iI (runsF (pG P)))), (0, .ref (yA Y 72)), (1, .ref (yA Y 172)), (2, .int (iI x))] [.int (iI mv)]
      refine g_iload (q := 522) B127 dL_takes_520 rfl 5 rfl ?_
      refine g_icmp_ne (t := 542) (q := 525) B127 dL_takes_522 (by decide) rfl ⟨by omega, by omega⟩ ⟨by omega, by omega⟩ (fun cq522 => absurd cq522 (by omega)) (fun cq522 => ?_)
      refine g_aload_n (q := 526) B127 dL_takes_525 rfl 12 rfl ?_
      refine g_iconst (q := 527) B127 dL_takes_526 rfl ?_
      refine g_iconst (q := 528) B127 dL_takes_527 rfl ?_
      refine g_iconst (q := 529) B127 dL_takes_528 rfl ?_
      refine g_iconst (q := 530) B127 dL_takes_529 rfl ?_
      refine g_callN (q := 533) (m1 := 1) (c2 := 25) (As := [.ref (yA Y 72), .int (iI 2), .int (iI 4), .int (iI 0), .int (iI 0)]) (st := []) B127 dL_takes_530 rfl (k_about (Y := Y) (S := S126) hst A126 V4.1 4 ⟨by omega, by omega⟩ 0 0 (x := hd) (hx := (by rw [e4]; exact hhd))) eL_call w179 (by decide) rfl rfl (Nat.le_of_ble_eq_true rfl) (by omega) (Nat.le_trans (show 25 ≤ 40 by omega) E.2.1) (Nat.le_trans (show 6 * (25) ≤ 6 * 40 by omega) E.2.2) (fun v S128 hS128 => ?_)
      obtain ⟨rfl, A128, K128⟩ := hS128
      have D128 := PK_o2 D126 K128
      have B129 := gB_K (c := 25) B127 (Nat.le_trans (show 25 ≤ 40 by omega) E.2.1) (Nat.le_trans (show 6 * (25) ≤ 6 * 40 by omega) E.2.2)
      show gW Y (xK X (25)) S128 533 [(9, .int (iI 1)), (14, .int (iI gp)), (13, .int (iI wy)), (12, .int (iI rf)), (11, .int (iI bs)), (10, .int (iI mv)), (8, .int (iI ow)), (7, .int (iI ig)), (6, .int (iI hd)), (5, .int (iI tt)), (4, .int (iI r)), (3, .int (iI (runsF (pG P)))), (0, .ref (yA Y 72)), (1, .ref (yA Y 172)), (2, .int (iI x))] [.int (iI hd)]
      refine g_iload (q := 535) B129 dL_takes_533 rfl 8 rfl ?_
      refine g_icmp_ne (t := 542) (q := 538) B129 dL_takes_535 (by decide) rfl ⟨by omega, by omega⟩ ⟨by omega, by omega⟩ (fun cq535 => absurd cq535 (by omega)) (fun cq535 => ?_)
      refine g_iconst (q := 539) B129 dL_takes_538 rfl ?_
      refine g_goto (q := 543) B129 dL_takes_539 (by decide) ?_
      exact gn_zret B129 E (by omega) dL_takes_543 rfl (by decide) ⟨rfl, P4, V4, A128, D128⟩
