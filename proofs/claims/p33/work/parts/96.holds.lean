/-! HOLDS -/
set_option maxHeartbeats 16000000 in
theorem c_holds {Y : gY} {l : Launch} {S : SS} {P : PT} (hst : l.stackTraces = false) (A0 : PK P S) (V : OK P) : gN Y l mL_holds 400 S [.ref (yA Y 72)] (qP 1 P S) := by
  refine gN_of (by decide) (Nat.le_of_ble_eq_true rfl) ?_
  intro X hXl B E
  subst hXl
  obtain ⟨W, C⟩ := id V
  have hb := pic_in W C
  have hw := W.1
  have hn1 : 1 ≤ pG P 0 := by omega
  have hbr := hw.2.1
  obtain ⟨cc, hcc⟩ : ∃ z : Int, ((cn ((pG P) 5).toNat 16 : Nat) : Int) = z := ⟨_, rfl⟩
  have hrc : runsF (pG P) = cc + 1 := by
    unfold runsF
    rw [if_neg (by omega), hcc]
  have rcc : 0 ≤ cc ∧ cc ≤ 16 := by have := cn_le ((pG P) 5).toNat 16; omega
  obtain ⟨nb, hnb⟩ : ∃ z : Int, nobF (pG P) = z := ⟨_, rfl⟩
  have rnb := nobF_in hw
  rw [hnb] at rnb
  obtain ⟨tot, htot⟩ : ∃ z : Int, totF (pG P) = z := ⟨_, rfl⟩
  have rto := tot_in hw
  rw [htot] at rto
  obtain ⟨gg, hgg⟩ : ∃ z : Int, gapF (pG P) = z := ⟨_, rfl⟩
  have rgg := gapF_in hw
  rw [hgg] at rgg
  obtain ⟨hv, hhv⟩ : ∃ z : Int, sm (hvE (pG P)) 4 = z := ⟨_, rfl⟩
  have rhv := have_le hw
  rw [hhv, htot, hnb] at rhv
  obtain ⟨fw, hfw⟩ : ∃ z : Int, fewF (pG P) = z := ⟨_, rfl⟩
  have rfw := few_in (pG P)
  rw [hfw] at rfw
  have fw0 := few_n0 hw hn1
  rw [hfw] at fw0
  have rst := hw.2.2.2.1
  have rmv := hw.2.2.1
  obtain ⟨f5, hf5⟩ : ∃ z : Int, (if nobF (pG P) = 0 ∧ gapF (pG P) = 0 then (1 : Int) else 0) = z := ⟨_, rfl⟩
  rw [hnb, hgg] at hf5
  have rf5 : (nb = 0 → gg = 0 → f5 = 1) ∧ (nb ≠ 0 → f5 = 0) ∧ (gg ≠ 0 → f5 = 0) := by
    rw [← hf5]
    exact ⟨fun a b => if_pos ⟨a, b⟩, fun a => if_neg (fun z => a z.1), fun a => if_neg (fun z => a z.2)⟩
  have rf5b : 0 ≤ f5 ∧ f5 ≤ 1 := by rw [← hf5]; split <;> omega
  have rff : nb = 0 → gg = 0 → cc ≤ 6 → fw ≠ -1 ∧ fw ≤ cc := fun a b z => by
    have := fair_few hw hn1 (hnb.trans a) (hgg.trans b) (by omega)
    rw [hfw, hcc] at this
    exact this
  have lp604 : ∀ (fu : Nat) (m : Int) (ll : Int) (c : Nat) (S1 : SS), PK P S1 → kp S S1 → gB Y (xK X c) "NecklaceSistersLaw" cL_holds 16 (some .boolean) 50 → 1 ≤ m → m ≤ 5 → ll = lgF (pG P) (m - 1).toNat → (c : Int) ≤ 330 + m → (5 - m).toNat < fu → gW Y (xK X c) S1 604 [(0, .ref (yA Y 72)), (1, .int (iI (pG P 0))), (2, .int (iI (runsF (pG P)))), (3, .int (iI (pG P 4))), (4, .int (iI (pG P 1))), (5, .int (iI 1)), (6, .int (iI (pG P 0))), (7, .int (iI nb)), (8, .int (iI tot)), (9, .int (iI gg)), (10, .int (iI hv)), (11, .int (iI fw)), (13, .int (iI ll)), (14, .int (iI m))] [] := by
    intro fu
    induction fu with
    | zero =>
      intro m ll c S1 _ _ _ _ _ _ _ h
      exact absurd h (Nat.not_lt_zero _)
    | succ fu ih =>
      intro m ll c S1 A1 T1 B1 m0 m1 hll hc hfu
      refine g_iload (q := 606) B1 dL_holds_604 rfl 13 rfl ?_
      refine g_iconst (q := 607) B1 dL_holds_606 rfl ?_
      refine g_icmp_ge (t := 698) (q := 610) B1 dL_holds_607 (by decide) rfl ⟨by omega, by omega⟩ ⟨by omega, by omega⟩ (fun cq607 => ?_) (fun cq607 => ?_)
      · refine g_iload (q := 700) B1 dL_holds_698 rfl 5 rfl ?_
        refine g_if_eq (t := 885) (q := 703) B1 dL_holds_700 (by decide) rfl ⟨by omega, by omega⟩ (fun cq700 => absurd cq700 (by decide)) (fun cq700 => ?_)
        refine g_iload (q := 705) B1 dL_holds_703 rfl 6 rfl ?_
        refine g_iload_n (q := 706) B1 dL_holds_705 rfl 1 rfl ?_
        refine g_icmp_ne (t := 885) (q := 709) B1 dL_holds_706 (by decide) rfl ⟨by omega, by omega⟩ ⟨by omega, by omega⟩ (fun cq706 => absurd cq706 (by omega)) (fun cq706 => ?_)
        refine g_iload (q := 711) B1 dL_holds_709 rfl 7 rfl ?_
        refine g_aload_n (q := 712) B1 dL_holds_711 rfl 0 rfl ?_
        refine g_iconst (q := 713) B1 dL_holds_712 rfl ?_
        refine g_bipush (q := 715) B1 dL_holds_713 rfl (by decide) ?_
        refine g_iconst (q := 716) B1 dL_holds_715 rfl ?_
        refine g_iconst (q := 717) B1 dL_holds_716 rfl ?_
        refine g_callN (q := 720) (m1 := 1) (c2 := c + 1) (As := [.ref (yA Y 72), .int (iI 2), .int (iI 7), .int (iI 0), .int (iI 0)]) (st := [.int (iI nb)]) B1 dL_holds_717 rfl (k_about (Y := Y) (S := S1) hst A1 W 7 ⟨by omega, by omega⟩ 0 0 (x := nb) (hx := hnb)) eL_call w179 (by decide) rfl rfl (Nat.le_of_ble_eq_true rfl) (by omega) (Nat.le_trans (show c + 1 ≤ 400 by omega) E.2.1) (Nat.le_trans (show 6 * (c + 1) ≤ 6 * 400 by omega) E.2.2) (fun v S2 hS2 => ?_)
        obtain ⟨rfl, A2, K2⟩ := hS2
        have T2 := kp_t T1 K2
        have B3 := gB_K (c := c + 1) B1 (Nat.le_trans (show c + 1 ≤ 400 by omega) E.2.1) (Nat.le_trans (show 6 * (c + 1) ≤ 6 * 400 by omega) E.2.2)
        show gW Y (xK X (c + 1)) S2 720 [(0, .ref (yA Y 72)), (1, .int (iI (pG P 0))), (2, .int (iI (runsF (pG P)))), (3, .int (iI (pG P 4))), (4, .int (iI (pG P 1))), (5, .int (iI 1)), (6, .int (iI (pG P 0))), (7, .int (iI nb)), (8, .int (iI tot)), (9, .int (iI gg)), (10, .int (iI hv)), (11, .int (iI fw)), (13, .int (iI ll)), (14, .int (iI m))] [.int (iI nb), .int (iI nb)]
        refine g_icmp_ne (t := 885) (q := 723) B3 dL_holds_720 (by decide) rfl ⟨by omega, by omega⟩ ⟨by omega, by omega⟩ (fun cq720 => absurd cq720 (by omega)) (fun cq720 => ?_)
        refine g_iload (q := 725) B3 dL_holds_723 rfl 9 rfl ?_
        refine g_aload_n (q := 726) B3 dL_holds_725 rfl 0 rfl ?_
        refine g_iconst (q := 727) B3 dL_holds_726 rfl ?_
        refine g_iconst (q := 728) B3 dL_holds_727 rfl ?_
        refine g_iconst (q := 729) B3 dL_holds_728 rfl ?_
        refine g_iconst (q := 730) B3 dL_holds_729 rfl ?_
        refine g_callN (q := 733) (m1 := 1) (c2 := c + 2) (As := [.ref (yA Y 72), .int (iI 2), .int (iI 4), .int (iI 0), .int (iI 0)]) (st := [.int (iI gg)]) B3 dL_holds_730 rfl (k_about (Y := Y) (S := S2) hst A2 W 4 ⟨by omega, by omega⟩ 0 0 (x := gg) (hx := hgg)) eL_call w179 (by decide) rfl rfl (Nat.le_of_ble_eq_true rfl) (by omega) (Nat.le_trans (show c + 2 ≤ 400 by omega) E.2.1) (Nat.le_trans (show 6 * (c + 2) ≤ 6 * 400 by omega) E.2.2) (fun v S4 hS4 => ?_)
        obtain ⟨rfl, A4, K4⟩ := hS4
        have T4 := kp_t T2 K4
        have B5 := gB_K (c := c + 2) B3 (Nat.le_trans (show c + 2 ≤ 400 by omega) E.2.1) (Nat.le_trans (show 6 * (c + 2) ≤ 6 * 400 by omega) E.2.2)
        show gW Y (xK X (c + 2)) S4 733 [(0, .ref (yA Y 72)), (1, .int (iI (pG P 0))), (2, .int (iI (runsF (pG P)))), (3, .int (iI (pG P 4))), (4, .int (iI (pG P 1))), (5, .int (iI 1)), (6, .int (iI (pG P 0))), (7, .int (iI nb)), (8, .int (iI tot)), (9, .int (iI gg)), (10, .int (iI hv)), (11, .int (iI fw)), (13, .int (iI ll)), (14, .int (iI m))] [.int (iI gg), .int (iI gg)]
        refine g_icmp_ne (t := 885) (q := 736) B5 dL_holds_733 (by decide) rfl ⟨by omega, by omega⟩ ⟨by omega, by omega⟩ (fun cq733 => absurd cq733 (by omega)) (fun cq733 => ?_)
        refine g_iload (q := 738) B5 dL_holds_736 rfl 10 rfl ?_
        refine g_iload (q := 740) B5 dL_holds_738 rfl 8 rfl ?_
        refine g_icmp_gt (t := 885) (q := 743) B5 dL_holds_740 (by decide) rfl ⟨by omega, by omega⟩ ⟨by omega, by omega⟩ (fun cq740 => absurd cq740 (by omega)) (fun cq740 => ?_)
        refine g_iload (q := 745) B5 dL_holds_743 rfl 7 rfl ?_
        refine g_if_gt (t := 755) (q := 748) B5 dL_holds_745 (by decide) rfl ⟨by omega, by omega⟩ (fun cq745 => ?_) (fun cq745 => ?_)
        · refine g_aload_n (q := 756) B5 dL_holds_755 rfl 0 rfl ?_
          refine g_iconst (q := 757) B5 dL_holds_756 rfl ?_
          refine g_iconst (q := 758) B5 dL_holds_757 rfl ?_
          refine g_iconst (q := 759) B5 dL_holds_758 rfl ?_
          refine g_iconst (q := 760) B5 dL_holds_759 rfl ?_
          refine g_callN (q := 763) (m1 := 1) (c2 := c + 3) (As := [.ref (yA Y 72), .int (iI 2), .int (iI 5), .int (iI 0), .int (iI 0)]) (st := []) B5 dL_holds_760 rfl (k_about (Y := Y) (S := S4) hst A4 W 5 ⟨by omega, by omega⟩ 0 0 (x := f5) (hx := (by rw [← hf5, ← hnb, ← hgg]; rfl))) eL_call w179 (by decide) rfl rfl (Nat.le_of_ble_eq_true rfl) (by omega) (Nat.le_trans (show c + 3 ≤ 400 by omega) E.2.1) (Nat.le_trans (show 6 * (c + 3) ≤ 6 * 400 by omega) E.2.2) (fun v S6 hS6 => ?_)
          obtain ⟨rfl, A6, K6⟩ := hS6
          have T6 := kp_t T4 K6
          have B7 := gB_K (c := c + 3) B5 (Nat.le_trans (show c + 3 ≤ 400 by omega) E.2.1) (Nat.le_trans (show 6 * (c + 3) ≤ 6 * 400 by omega) E.2.2)
          show gW Y (xK X (c + 3)) S6 763 [(0, .ref (yA Y 72)), (1, .int (iI (pG P 0))), (2, .int (iI (runsF (pG P)))), (3, .int (iI (pG P 4))), (4, .int (iI (pG P 1))), (5, .int (iI 1)), (6, .int (iI (pG P 0))), (7, .int (iI nb)), (8, .int (iI tot)), (9, .int (iI gg)), (10, .int (iI hv)), (11, .int (iI fw)), (13, .int (iI ll)), (14, .int (iI m))] [.int (iI f5)]
          refine g_iload (q := 765) B7 dL_holds_763 rfl 7 rfl ?_
          refine g_if_ne (t := 777) (q := 768) B7 dL_holds_765 (by decide) rfl ⟨by omega, by omega⟩ (fun cq765 => ?_) (fun cq765 => absurd cq765 (by omega))
          refine g_iconst (q := 778) B7 dL_holds_777 rfl ?_
          refine g_icmp_ne (t := 885) (q := 781) B7 dL_holds_778 (by decide) rfl ⟨by omega, by omega⟩ ⟨by omega, by omega⟩ (fun cq778 => absurd cq778 (by omega)) (fun cq778 => ?_)
          refine g_iload (q := 783) B7 dL_holds_781 rfl 11 rfl ?_
          refine g_aload_n (q := 784) B7 dL_holds_783 rfl 0 rfl ?_
          refine g_bipush (q := 786) B7 dL_holds_784 rfl (by decide) ?_
          refine g_iconst (q := 787) B7 dL_holds_786 rfl ?_
          refine g_iconst (q := 788) B7 dL_holds_787 rfl ?_
          refine g_iconst (q := 789) B7 dL_holds_788 rfl ?_
          refine g_callN (q := 792) (m1 := 1) (c2 := c + 4) (As := [.ref (yA Y 72), .int (iI 16), .int (iI 1), .int (iI 0), .int (iI 0)]) (st := [.int (iI fw)]) B7 dL_holds_789 rfl (k_fewest (Y := Y) (S := S6) hst A6 W 1 ⟨by omega, by omega⟩ 0 0 (x := fw) (hx := hfw)) eL_call w179 (by decide) rfl rfl (Nat.le_of_ble_eq_true rfl) (by omega) (Nat.le_trans (show c + 4 ≤ 400 by omega) E.2.1) (Nat.le_trans (show 6 * (c + 4) ≤ 6 * 400 by omega) E.2.2) (fun v S8 hS8 => ?_)
          obtain ⟨rfl, A8, K8⟩ := hS8
          have T8 := kp_t T6 K8
          have B9 := gB_K (c := c + 4) B7 (Nat.le_trans (show c + 4 ≤ 400 by omega) E.2.1) (Nat.le_trans (show 6 * (c + 4) ≤ 6 * 400 by omega) E.2.2)
          show gW Y (xK X (c + 4)) S8 792 [(0, .ref (yA Y 72)), (1, .int (iI (pG P 0))), (2, .int (iI (runsF (pG P)))), (3, .int (iI (pG P 4))), (4, .int (iI (pG P 1))), (5, .int (iI 1)), (6, .int (iI (pG P 0))), (7, .int (iI nb)), (8, .int (iI tot)), (9, .int (iI gg)), (10, .int (iI hv)), (11, .int (iI fw)), (13, .int (iI ll)), (14, .int (iI m))] [.int (iI fw), .int (iI fw)]
          refine g_icmp_ne (t := 885) (q := 795) B9 dL_holds_792 (by decide) rfl ⟨by omega, by omega⟩ ⟨by omega, by omega⟩ (fun cq792 => absurd cq792 (by omega)) (fun cq792 => ?_)
          refine g_iload (q := 797) B9 dL_holds_795 rfl 11 rfl ?_
          refine g_iconst (q := 798) B9 dL_holds_797 rfl ?_
          refine g_icmp_lt (t := 885) (q := 801) B9 dL_holds_798 (by decide) rfl ⟨by omega, by omega⟩ ⟨by omega, by omega⟩ (fun cq798 => absurd cq798 (by omega)) (fun cq798 => ?_)
          refine g_iload (q := 803) B9 dL_holds_801 rfl 11 rfl ?_
          refine g_bipush (q := 805) B9 dL_holds_803 rfl (by decide) ?_
          refine g_icmp_gt (t := 885) (q := 808) B9 dL_holds_805 (by decide) rfl ⟨by omega, by omega⟩ ⟨by omega, by omega⟩ (fun cq805 => absurd cq805 (by omega)) (fun cq805 => ?_)
          refine g_iload (q := 810) B9 dL_holds_808 rfl 11 rfl ?_
          refine g_if_eq (t := 885) (q := 813) B9 dL_holds_810 (by decide) rfl ⟨by omega, by omega⟩ (fun cq810 => absurd cq810 (by omega)) (fun cq810 => ?_)
          refine g_aload_n (q := 814) B9 dL_holds_813 rfl 0 rfl ?_
          refine g_iconst (q := 815) B9 dL_holds_814 rfl ?_
          refine g_bipush (q := 817) B9 dL_holds_815 rfl (by decide) ?_
          refine g_iconst (q := 818) B9 dL_holds_817 rfl ?_
          refine g_iconst (q := 819) B9 dL_holds_818 rfl ?_
          refine g_callN (q := 822) (m1 := 1) (c2 := c + 5) (As := [.ref (yA Y 72), .int (iI 2), .int (iI 6), .int (iI 0), .int (iI 0)]) (st := []) B9 dL_holds_819 rfl (k_about (Y := Y) (S := S8) hst A8 W 6 ⟨by omega, by omega⟩ 0 0 (x := pG P 2) (hx := rfl)) eL_call w179 (by decide) rfl rfl (Nat.le_of_ble_eq_true rfl) (by omega) (Nat.le_trans (show c + 5 ≤ 400 by omega) E.2.1) (Nat.le_trans (show 6 * (c + 5) ≤ 6 * 400 by omega) E.2.2) (fun v S10 hS10 => ?_)
          obtain ⟨rfl, A10, K10⟩ := hS10
          have T10 := kp_t T8 K10
          have B11 := gB_K (c := c + 5) B9 (Nat.le_trans (show c + 5 ≤ 400 by omega) E.2.1) (Nat.le_trans (show 6 * (c + 5) ≤ 6 * 400 by omega) E.2.2)
          show gW Y (xK X (c + 5)) S10 822 [(0, .ref (yA Y 72)), (1, .int (iI (pG P 0))), (2, .int (iI (runsF (pG P)))), (3, .int (iI (pG P 4))), (4, .int (iI (pG P 1))), (5, .int (iI 1)), (6, .int (iI (pG P 0))), (7, .int (iI nb)), (8, .int (iI tot)), (9, .int (iI gg)), (10, .int (iI hv)), (11, .int (iI fw)), (13, .int (iI ll)), (14, .int (iI m))] [.int (iI (pG P 2))]
          refine g_if_lt (t := 885) (q := 825) B11 dL_holds_822 (by decide) rfl ⟨by omega, by omega⟩ (fun cq822 => absurd cq822 (by omega)) (fun cq822 => ?_)
          refine g_aload_n (q := 826) B11 dL_holds_825 rfl 0 rfl ?_
          refine g_iconst (q := 827) B11 dL_holds_826 rfl ?_
          refine g_bipush (q := 829) B11 dL_holds_827 rfl (by decide) ?_
          refine g_iconst (q := 830) B11 dL_holds_829 rfl ?_
          refine g_iconst (q := 831) B11 dL_holds_830 rfl ?_
          refine g_callN (q := 834) (m1 := 1) (c2 := c + 6) (As := [.ref (yA Y 72), .int (iI 2), .int (iI 6), .int (iI 0), .int (iI 0)]) (st := []) B11 dL_holds_831 rfl (k_about (Y := Y) (S := S10) hst A10 W 6 ⟨by omega, by omega⟩ 0 0 (x := pG P 2) (hx := rfl)) eL_call w179 (by decide) rfl rfl (Nat.le_of_ble_eq_true rfl) (by omega) (Nat.le_trans (show c + 6 ≤ 400 by omega) E.2.1) (Nat.le_trans (show 6 * (c + 6) ≤ 6 * 400 by omega) E.2.2) (fun v S12 hS12 => ?_)
          obtain ⟨rfl, A12, K12⟩ := hS12
          have T12 := kp_t T10 K12
          have B13 := gB_K (c := c + 6) B11 (Nat.le_trans (show c + 6 ≤ 400 by omega) E.2.1) (Nat.le_trans (show 6 * (c + 6) ≤ 6 * 400 by omega) E.2.2)
          show gW Y (xK X (c + 6)) S12 834 [(0, .ref (yA Y 72)), (1, .int (iI (pG P 0))), (2, .int (iI (runsF (pG P)))), (3, .int (iI (pG P 4))), (4, .int (iI (pG P 1))), (5, .int (iI 1)), (6, .int (iI (pG P 0))), (7, .int (iI nb)), (8, .int (iI tot)), (9, .int (iI gg)), (10, .int (iI hv)), (11, .int (iI fw)), (13, .int (iI ll)), (14, .int (iI m))] [.int (iI (pG P 2))]
          refine g_iconst (q := 835) B13 dL_holds_834 rfl ?_
          refine g_icmp_ge (t := 885) (q := 838) B13 dL_holds_835 (by decide) rfl ⟨by omega, by omega⟩ ⟨by omega, by omega⟩ (fun cq835 => absurd cq835 (by omega)) (fun cq835 => ?_)
          refine g_aload_n (q := 839) B13 dL_holds_838 rfl 0 rfl ?_
          refine g_iconst (q := 840) B13 dL_holds_839 rfl ?_
          refine g_iconst (q := 841) B13 dL_holds_840 rfl ?_
          refine g_iconst (q := 842) B13 dL_holds_841 rfl ?_
          refine g_iconst (q := 843) B13 dL_holds_842 rfl ?_
          refine g_callN (q := 846) (m1 := 1) (c2 := c + 7) (As := [.ref (yA Y 72), .int (iI 2), .int (iI 5), .int (iI 0), .int (iI 0)]) (st := []) B13 dL_holds_843 rfl (k_about (Y := Y) (S := S12) hst A12 W 5 ⟨by omega, by omega⟩ 0 0 (x := f5) (hx := (by rw [← hf5, ← hnb, ← hgg]; rfl))) eL_call w179 (by decide) rfl rfl (Nat.le_of_ble_eq_true rfl) (by omega) (Nat.le_trans (show c + 7 ≤ 400 by omega) E.2.1) (Nat.le_trans (show 6 * (c + 7) ≤ 6 * 400 by omega) E.2.2) (fun v S14 hS14 => ?_)
          obtain ⟨rfl, A14, K14⟩ := hS14
          have T14 := kp_t T12 K14
          have B15 := gB_K (c := c + 7) B13 (Nat.le_trans (show c + 7 ≤ 400 by omega) E.2.1) (Nat.le_trans (show 6 * (c + 7) ≤ 6 * 400 by omega) E.2.2)
          show gW Y (xK X (c + 7)) S14 846 [(0, .ref (yA Y 72)), (1, .int (iI (pG P 0))), (2, .int (iI (runsF (pG P)))), (3, .int (iI (pG P 4))), (4, .int (iI (pG P 1))), (5, .int (iI 1)), (6, .int (iI (pG P 0))), (7, .int (iI nb)), (8, .int (iI tot)), (9, .int (iI gg)), (10, .int (iI hv)), (11, .int (iI fw)), (13, .int (iI ll)), (14, .int (iI m))] [.int (iI f5)]
          refine g_if_eq (t := 881) (q := 849) B15 dL_holds_846 (by decide) rfl ⟨by omega, by omega⟩ (fun cq846 => ?_) (fun cq846 => absurd cq846 (by omega))
          refine g_iconst (q := 882) B15 dL_holds_881 rfl ?_
          refine g_goto (q := 886) B15 dL_holds_882 (by decide) ?_
          exact gn_zret B15 E (by omega) dL_holds_886 rfl (by decide) ⟨rfl, A14, T14⟩
        · have nb0 : nb = 0 := by omega
          have hv0 := rhv.2 nb0
          refine g_iload (q := 750) B5 dL_holds_748 rfl 10 rfl ?_
          refine g_iload (q := 752) B5 dL_holds_750 rfl 8 rfl ?_
          refine g_icmp_ne (t := 885) (q := 755) B5 dL_holds_752 (by decide) rfl ⟨by omega, by omega⟩ ⟨by omega, by omega⟩ (fun cq752 => absurd cq752 (by omega)) (fun cq752 => ?_)
          refine g_aload_n (q := 756) B5 dL_holds_755 rfl 0 rfl ?_
          refine g_iconst (q := 757) B5 dL_holds_756 rfl ?_
          refine g_iconst (q := 758) B5 dL_holds_757 rfl ?_
          refine g_iconst (q := 759) B5 dL_holds_758 rfl ?_
          refine g_iconst (q := 760) B5 dL_holds_759 rfl ?_
          refine g_callN (q := 763) (m1 := 1) (c2 := c + 3) (As := [.ref (yA Y 72), .int (iI 2), .int (iI 5), .int (iI 0), .int (iI 0)]) (st := []) B5 dL_holds_760 rfl (k_about (Y := Y) (S := S4) hst A4 W 5 ⟨by omega, by omega⟩ 0 0 (x := f5) (hx := (by rw [← hf5, ← hnb, ← hgg]; rfl))) eL_call w179 (by decide) rfl rfl (Nat.le_of_ble_eq_true rfl) (by omega) (Nat.le_trans (show c + 3 ≤ 400 by omega) E.2.1) (Nat.le_trans (show 6 * (c + 3) ≤ 6 * 400 by omega) E.2.2) (fun v S16 hS16 => ?_)
          obtain ⟨rfl, A16, K16⟩ := hS16
          have T16 := kp_t T4 K16
          have B17 := gB_K (c := c + 3) B5 (Nat.le_trans (show c + 3 ≤ 400 by omega) E.2.1) (Nat.le_trans (show 6 * (c + 3) ≤ 6 * 400 by omega) E.2.2)
          show gW Y (xK X (c + 3)) S16 763 [(0, .ref (yA Y 72)), (1, .int (iI (pG P 0))), (2, .int (iI (runsF (pG P)))), (3, .int (iI (pG P 4))), (4, .int (iI (pG P 1))), (5, .int (iI 1)), (6, .int (iI (pG P 0))), (7, .int (iI nb)), (8, .int (iI tot)), (9, .int (iI gg)), (10, .int (iI hv)), (11, .int (iI fw)), (13, .int (iI ll)), (14, .int (iI m))] [.int (iI f5)]
          refine g_iload (q := 765) B17 dL_holds_763 rfl 7 rfl ?_
          refine g_if_ne (t := 777) (q := 768) B17 dL_holds_765 (by decide) rfl ⟨by omega, by omega⟩ (fun cq765 => absurd cq765 (by omega)) (fun cq765 => ?_)
          refine g_iload (q := 770) B17 dL_holds_768 rfl 9 rfl ?_
          refine g_if_ne (t := 777) (q := 773) B17 dL_holds_770 (by decide) rfl ⟨by omega, by omega⟩ (fun cq770 => ?_) (fun cq770 => ?_)
          · refine g_iconst (q := 778) B17 dL_holds_777 rfl ?_
            refine g_icmp_ne (t := 885) (q := 781) B17 dL_holds_778 (by decide) rfl ⟨by omega, by omega⟩ ⟨by omega, by omega⟩ (fun cq778 => absurd cq778 (by omega)) (fun cq778 => ?_)
            refine g_iload (q := 783) B17 dL_holds_781 rfl 11 rfl ?_
            refine g_aload_n (q := 784) B17 dL_holds_783 rfl 0 rfl ?_
            refine g_bipush (q := 786) B17 dL_holds_784 rfl (by decide) ?_
            refine g_iconst (q := 787) B17 dL_holds_786 rfl ?_
            refine g_iconst (q := 788) B17 dL_holds_787 rfl ?_
            refine g_iconst (q := 789) B17 dL_holds_788 rfl ?_
            refine g_callN (q := 792) (m1 := 1) (c2 := c + 4) (As := [.ref (yA Y 72), .int (iI 16), .int (iI 1), .int (iI 0), .int (iI 0)]) (st := [.int (iI fw)]) B17 dL_holds_789 rfl (k_fewest (Y := Y) (S := S16) hst A16 W 1 ⟨by omega, by omega⟩ 0 0 (x := fw) (hx := hfw)) eL_call w179 (by decide) rfl rfl (Nat.le_of_ble_eq_true rfl) (by omega) (Nat.le_trans (show c + 4 ≤ 400 by omega) E.2.1) (Nat.le_trans (show 6 * (c + 4) ≤ 6 * 400 by omega) E.2.2) (fun v S18 hS18 => ?_)
            obtain ⟨rfl, A18, K18⟩ := hS18
            have T18 := kp_t T16 K18
            have B19 := gB_K (c := c + 4) B17 (Nat.le_trans (show c + 4 ≤ 400 by omega) E.2.1) (Nat.le_trans (show 6 * (c + 4) ≤ 6 * 400 by omega) E.2.2)
            show gW Y (xK X (c + 4)) S18 792 [(0, .ref (yA Y 72)), (1, .int (iI (pG P 0))), (2, .int (iI (runsF (pG P)))), (3, .int (iI (pG P 4))), (4, .int (iI (pG P 1))), (5, .int (iI 1)), (6, .int (iI (pG P 0))), (7, .int (iI nb)), (8, .int (iI tot)), (9, .int (iI gg)), (10, .int (iI hv)), (11, .int (iI fw)), (13, .int (iI ll)), (14, .int (iI m))] [.int (iI fw), .int (iI fw)]
            refine g_icmp_ne (t := 885) (q := 795) B19 dL_holds_792 (by decide) rfl ⟨by omega, by omega⟩ ⟨by omega, by omega⟩ (fun cq792 => absurd cq792 (by omega)) (fun cq792 => ?_)
            refine g_iload (q := 797) B19 dL_holds_795 rfl 11 rfl ?_
            refine g_iconst (q := 798) B19 dL_holds_797 rfl ?_
            refine g_icmp_lt (t := 885) (q := 801) B19 dL_holds_798 (by decide) rfl ⟨by omega, by omega⟩ ⟨by omega, by omega⟩ (fun cq798 => absurd cq798 (by omega)) (fun cq798 => ?_)
            refine g_iload (q := 803) B19 dL_holds_801 rfl 11 rfl ?_
            refine g_bipush (q := 805) B19 dL_holds_803 rfl (by decide) ?_
            refine g_icmp_gt (t := 885) (q := 808) B19 dL_holds_805 (by decide) rfl ⟨by omega, by omega⟩ ⟨by omega, by omega⟩ (fun cq805 => absurd cq805 (by omega)) (fun cq805 => ?_)
            refine g_iload (q := 810) B19 dL_holds_808 rfl 11 rfl ?_
            refine g_if_eq (t := 885) (q := 813) B19 dL_holds_810 (by decide) rfl ⟨by omega, by omega⟩ (fun cq810 => absurd cq810 (by omega)) (fun cq810 => ?_)
            refine g_aload_n (q := 814) B19 dL_holds_813 rfl 0 rfl ?_
            refine g_iconst (q := 815) B19 dL_holds_814 rfl ?_
            refine g_bipush (q := 817) B19 dL_holds_815 rfl (by decide) ?_
            refine g_iconst (q := 818) B19 dL_holds_817 rfl ?_
            refine g_iconst (q := 819) B19 dL_holds_818 rfl ?_
            refine g_callN (q := 822) (m1 := 1) (c2 := c + 5) (As := [.ref (yA Y 72), .int (iI 2), .int (iI 6), .int (iI 0), .int (iI 0)]) (st := []) B19 dL_holds_819 rfl (k_about (Y := Y) (S := S18) hst A18 W 6 ⟨by omega, by omega⟩ 0 0 (x := pG P 2) (hx := rfl)) eL_call w179 (by decide) rfl rfl (Nat.le_of_ble_eq_true rfl) (by omega) (Nat.le_trans (show c + 5 ≤ 400 by omega) E.2.1) (Nat.le_trans (show 6 * (c + 5) ≤ 6 * 400 by omega) E.2.2) (fun v S20 hS20 => ?_)
            obtain ⟨rfl, A20, K20⟩ := hS20
            have T20 := kp_t T18 K20
            have B21 := gB_K (c := c + 5) B19 (Nat.le_trans (show c + 5 ≤ 400 by omega) E.2.1) (Nat.le_trans (show 6 * (c + 5) ≤ 6 * 400 by omega) E.2.2)
            show gW Y (xK X (c + 5)) S20 822 [(0, .ref (yA Y 72)), (1, .int (iI (pG P 0))), (2, .int (iI (runsF (pG P)))), (3, .int (iI (pG P 4))), (4, .int (iI (pG P 1))), (5, .int (iI 1)), (6, .int (iI (pG P 0))), (7, .int (iI nb)), (8, .int (iI tot)), (9, .int (iI gg)), (10, .int (iI hv)), (11, .int (iI fw)), (13, .int (iI ll)), (14, .int (iI m))] [.int (iI (pG P 2))]
            refine g_if_lt (t := 885) (q := 825) B21 dL_holds_822 (by decide) rfl ⟨by omega, by omega⟩ (fun cq822 => absurd cq822 (by omega)) (fun cq822 => ?_)
            refine g_aload_n (q := 826) B21 dL_holds_825 rfl 0 rfl ?_
            refine g_iconst (q := 827) B21 dL_holds_826 rfl ?_
            refine g_bipush (q := 829) B21 dL_holds_827 rfl (by decide) ?_
            refine g_iconst (q := 830) B21 dL_holds_829 rfl ?_
            refine g_iconst (q := 831) B21 dL_holds_830 rfl ?_
            refine g_callN (q := 834) (m1 := 1) (c2 := c + 6) (As := [.ref (yA Y 72), .int (iI 2), .int (iI 6), .int (iI 0), .int (iI 0)]) (st := []) B21 dL_holds_831 rfl (k_about (Y := Y) (S := S20) hst A20 W 6 ⟨by omega, by omega⟩ 0 0 (x := pG P 2) (hx := rfl)) eL_call w179 (by decide) rfl rfl (Nat.le_of_ble_eq_true rfl) (by omega) (Nat.le_trans (show c + 6 ≤ 400 by omega) E.2.1) (Nat.le_trans (show 6 * (c + 6) ≤ 6 * 400 by omega) E.2.2) (fun v S22 hS22 => ?_)
            obtain ⟨rfl, A22, K22⟩ := hS22
            have T22 := kp_t T20 K22
            have B23 := gB_K (c := c + 6) B21 (Nat.le_trans (show c + 6 ≤ 400 by omega) E.2.1) (Nat.le_trans (show 6 * (c + 6) ≤ 6 * 400 by omega) E.2.2)
            show gW Y (xK X (c + 6)) S22 834 [(0, .ref (yA Y 72)), (1, .int (iI (pG P 0))), (2, .int (iI (runsF (pG P)))), (3, .int (iI (pG P 4))), (4, .int (iI (pG P 1))), (5, .int (iI 1)), (6, .int (iI (pG P 0))), (7, .int (iI nb)), (8, .int (iI tot)), (9, .int (iI gg)), (10, .int (iI hv)), (11, .int (iI fw)), (13, .int (iI ll)), (14, .int (iI m))] [.int (iI (pG P 2))]
            refine g_iconst (q := 835) B23 dL_holds_834 rfl ?_
            refine g_icmp_ge (t := 885) (q := 838) B23 dL_holds_835 (by decide) rfl ⟨by omega, by omega⟩ ⟨by omega, by omega⟩ (fun cq835 => absurd cq835 (by omega)) (fun cq835 => ?_)
            refine g_aload_n (q := 839) B23 dL_holds_838 rfl 0 rfl ?_
            refine g_iconst (q := 840) B23 dL_holds_839 rfl ?_
            refine g_iconst (q := 841) B23 dL_holds_840 rfl ?_
            refine g_iconst (q := 842) B23 dL_holds_841 rfl ?_
            refine g_iconst (q := 843) B23 dL_holds_842 rfl ?_
            refine g_callN (q := 846) (m1 := 1) (c2 := c + 7) (As := [.ref (yA Y 72), .int (iI 2), .int (iI 5), .int (iI 0), .int (iI 0)]) (st := []) B23 dL_holds_843 rfl (k_about (Y := Y) (S := S22) hst A22 W 5 ⟨by omega, by omega⟩ 0 0 (x := f5) (hx := (by rw [← hf5, ← hnb, ← hgg]; rfl))) eL_call w179 (by decide) rfl rfl (Nat.le_of_ble_eq_true rfl) (by omega) (Nat.le_trans (show c + 7 ≤ 400 by omega) E.2.1) (Nat.le_trans (show 6 * (c + 7) ≤ 6 * 400 by omega) E.2.2) (fun v S24 hS24 => ?_)
            obtain ⟨rfl, A24, K24⟩ := hS24
            have T24 := kp_t T22 K24
            have B25 := gB_K (c := c + 7) B23 (Nat.le_trans (show c + 7 ≤ 400 by omega) E.2.1) (Nat.le_trans (show 6 * (c + 7) ≤ 6 * 400 by omega) E.2.2)
            show gW Y (xK X (c + 7)) S24 846 [(0, .ref (yA Y 72)), (1, .int (iI (pG P 0))), (2, .int (iI (runsF (pG P)))), (3, .int (iI (pG P 4))), (4, .int (iI (pG P 1))), (5, .int (iI 1)), (6, .int (iI (pG P 0))), (7, .int (iI nb)), (8, .int (iI tot)), (9, .int (iI gg)), (10, .int (iI hv)), (11, .int (iI fw)), (13, .int (iI ll)), (14, .int (iI m))] [.int (iI f5)]
            refine g_if_eq (t := 881) (q := 849) B25 dL_holds_846 (by decide) rfl ⟨by omega, by omega⟩ (fun cq846 => ?_) (fun cq846 => absurd cq846 (by omega))
            refine g_iconst (q := 882) B25 dL_holds_881 rfl ?_
            refine g_goto (q := 886) B25 dL_holds_882 (by decide) ?_
            exact gn_zret B25 E (by omega) dL_holds_886 rfl (by decide) ⟨rfl, A24, T24⟩
          · have gg0 : gg = 0 := by omega
            have ff1 := rff nb0 gg0
            refine g_iconst (q := 774) B17 dL_holds_773 rfl ?_
            refine g_goto (q := 778) B17 dL_holds_774 (by decide) ?_
            refine g_icmp_ne (t := 885) (q := 781) B17 dL_holds_778 (by decide) rfl ⟨by omega, by omega⟩ ⟨by omega, by omega⟩ (fun cq778 => absurd cq778 (by omega)) (fun cq778 => ?_)
            refine g_iload (q := 783) B17 dL_holds_781 rfl 11 rfl ?_
            refine g_aload_n (q := 784) B17 dL_holds_783 rfl 0 rfl ?_
            refine g_bipush (q := 786) B17 dL_holds_784 rfl (by decide) ?_
            refine g_iconst (q := 787) B17 dL_holds_786 rfl ?_
            refine g_iconst (q := 788) B17 dL_holds_787 rfl ?_
            refine g_iconst (q := 789) B17 dL_holds_788 rfl ?_
            refine g_callN (q := 792) (m1 := 1) (c2 := c + 4) (As := [.ref (yA Y 72), .int (iI 16), .int (iI 1), .int (iI 0), .int (iI 0)]) (st := [.int (iI fw)]) B17 dL_holds_789 rfl (k_fewest (Y := Y) (S := S16) hst A16 W 1 ⟨by omega, by omega⟩ 0 0 (x := fw) (hx := hfw)) eL_call w179 (by decide) rfl rfl (Nat.le_of_ble_eq_true rfl) (by omega) (Nat.le_trans (show c + 4 ≤ 400 by omega) E.2.1) (Nat.le_trans (show 6 * (c + 4) ≤ 6 * 400 by omega) E.2.2) (fun v S26 hS26 => ?_)
            obtain ⟨rfl, A26, K26⟩ := hS26
            have T26 := kp_t T16 K26
            have B27 := gB_K (c := c + 4) B17 (Nat.le_trans (show c + 4 ≤ 400 by omega) E.2.1) (Nat.le_trans (show 6 * (c + 4) ≤ 6 * 400 by omega) E.2.2)
            show gW Y (xK X (c + 4)) S26 792 [(0, .ref (yA Y 72)), (1, .int (iI (pG P 0))), (2, .int (iI (runsF (pG P)))), (3, .int (iI (pG P 4))), (4, .int (iI (pG P 1))), (5, .int (iI 1)), (6, .int (iI (pG P 0))), (7, .int (iI nb)), (8, .int (iI tot)), (9, .int (iI gg)), (10, .int (iI hv)), (11, .int (iI fw)), (13, .int (iI ll)), (14, .int (iI m))] [.int (iI fw), .int (iI fw)]
            refine g_icmp_ne (t := 885) (q := 795) B27 dL_holds_792 (by decide) rfl ⟨by omega, by omega⟩ ⟨by omega, by omega⟩ (fun cq792 => absurd cq792 (by omega)) (fun cq792 => ?_)
            refine g_iload (q := 797) B27 dL_holds_795 rfl 11 rfl ?_
            refine g_iconst (q := 798) B27 dL_holds_797 rfl ?_
            refine g_icmp_lt (t := 885) (q := 801) B27 dL_holds_798 (by decide) rfl ⟨by omega, by omega⟩ ⟨by omega, by omega⟩ (fun cq798 => absurd cq798 (by omega)) (fun cq798 => ?_)
            refine g_iload (q := 803) B27 dL_holds_801 rfl 11 rfl ?_
            refine g_bipush (q := 805) B27 dL_holds_803 rfl (by decide) ?_
            refine g_icmp_gt (t := 885) (q := 808) B27 dL_holds_805 (by decide) rfl ⟨by omega, by omega⟩ ⟨by omega, by omega⟩ (fun cq805 => absurd cq805 (by omega)) (fun cq805 => ?_)
            refine g_iload (q := 810) B27 dL_holds_808 rfl 11 rfl ?_
            refine g_if_eq (t := 885) (q := 813) B27 dL_holds_810 (by decide) rfl ⟨by omega, by omega⟩ (fun cq810 => absurd cq810 (by omega)) (fun cq810 => ?_)
            refine g_aload_n (q := 814) B27 dL_holds_813 rfl 0 rfl ?_
            refine g_iconst (q := 815) B27 dL_holds_814 rfl ?_
            refine g_bipush (q := 817) B27 dL_holds_815 rfl (by decide) ?_
            refine g_iconst (q := 818) B27 dL_holds_817 rfl ?_
            refine g_iconst (q := 819) B27 dL_holds_818 rfl ?_
            refine g_callN (q := 822) (m1 := 1) (c2 := c + 5) (As := [.ref (yA Y 72), .int (iI 2), .int (iI 6), .int (iI 0), .int (iI 0)]) (st := []) B27 dL_holds_819 rfl (k_about (Y := Y) (S := S26) hst A26 W 6 ⟨by omega, by omega⟩ 0 0 (x := pG P 2) (hx := rfl)) eL_call w179 (by decide) rfl rfl (Nat.le_of_ble_eq_true rfl) (by omega) (Nat.le_trans (show c + 5 ≤ 400 by omega) E.2.1) (Nat.le_trans (show 6 * (c + 5) ≤ 6 * 400 by omega) E.2.2) (fun v S28 hS28 => ?_)
            obtain ⟨rfl, A28, K28⟩ := hS28
            have T28 := kp_t T26 K28
            have B29 := gB_K (c := c + 5) B27 (Nat.le_trans (show c + 5 ≤ 400 by omega) E.2.1) (Nat.le_trans (show 6 * (c + 5) ≤ 6 * 400 by omega) E.2.2)
            show gW Y (xK X (c + 5)) S28 822 [(0, .ref (yA Y 72)), (1, .int (iI (pG P 0))), (2, .int (iI (runsF (pG P)))), (3, .int (iI (pG P 4))), (4, .int (iI (pG P 1))), (5, .int (iI 1)), (6, .int (iI (pG P 0))), (7, .int (iI nb)), (8, .int (iI tot)), (9, .int (iI gg)), (10, .int (iI hv)), (11, .int (iI fw)), (13, .int (iI ll)), (14, .int (iI m))] [.int (iI (pG P 2))]
            refine g_if_lt (t := 885) (q := 825) B29 dL_holds_822 (by decide) rfl ⟨by omega, by omega⟩ (fun cq822 => absurd cq822 (by omega)) (fun cq822 => ?_)
            refine g_aload_n (q := 826) B29 dL_holds_825 rfl 0 rfl ?_
            refine g_iconst (q := 827) B29 dL_holds_826 rfl ?_
            refine g_bipush (q := 829) B29 dL_holds_827 rfl (by decide) ?_
            refine g_iconst (q := 830) B29 dL_holds_829 rfl ?_
            refine g_iconst (q := 831) B29 dL_holds_830 rfl ?_
            refine g_callN (q := 834) (m1 := 1) (c2 := c + 6) (As := [.ref (yA Y 72), .int (iI 2), .int (iI 6), .int (iI 0), .int (iI 0)]) (st := []) B29 dL_holds_831 rfl (k_about (Y := Y) (S := S28) hst A28 W 6 ⟨by omega, by omega⟩ 0 0 (x := pG P 2) (hx := rfl)) eL_call w179 (by decide) rfl rfl (Nat.le_of_ble_eq_true rfl) (by omega) (Nat.le_trans (show c + 6 ≤ 400 by omega) E.2.1) (Nat.le_trans (show 6 * (c + 6) ≤ 6 * 400 by omega) E.2.2) (fun v S30 hS30 => ?_)
            obtain ⟨rfl, A30, K30⟩ := hS30
            have T30 := kp_t T28 K30
            have B31 := gB_K (c := c + 6) B29 (Nat.le_trans (show c + 6 ≤ 400 by omega) E.2.1) (Nat.le_trans (show 6 * (c + 6) ≤ 6 * 400 by omega) E.2.2)
            show gW Y (xK X (c + 6)) S30 834 [(0, .ref (yA Y 72)), (1, .int (iI (pG P 0))), (2, .int (iI (runsF (pG P)))), (3, .int (iI (pG P 4))), (4, .int (iI (pG P 1))), (5, .int (iI 1)), (6, .int (iI (pG P 0))), (7, .int (iI nb)), (8, .int (iI tot)), (9, .int (iI gg)), (10, .int (iI hv)), (11, .int (iI fw)), (13, .int (iI ll)), (14, .int (iI m))] [.int (iI (pG P 2))]
            refine g_iconst (q := 835) B31 dL_holds_834 rfl ?_
            refine g_icmp_ge (t := 885) (q := 838) B31 dL_holds_835 (by decide) rfl ⟨by omega, by omega⟩ ⟨by omega, by omega⟩ (fun cq835 => absurd cq835 (by omega)) (fun cq835 => ?_)
            refine g_aload_n (q := 839) B31 dL_holds_838 rfl 0 rfl ?_
            refine g_iconst (q := 840) B31 dL_holds_839 rfl ?_
            refine g_iconst (q := 841) B31 dL_holds_840 rfl ?_
            refine g_iconst (q := 842) B31 dL_holds_841 rfl ?_
            refine g_iconst (q := 843) B31 dL_holds_842 rfl ?_
            refine g_callN (q := 846) (m1 := 1) (c2 := c + 7) (As := [.ref (yA Y 72), .int (iI 2), .int (iI 5), .int (iI 0), .int (iI 0)]) (st := []) B31 dL_holds_843 rfl (k_about (Y := Y) (S := S30) hst A30 W 5 ⟨by omega, by omega⟩ 0 0 (x := f5) (hx := (by rw [← hf5, ← hnb, ← hgg]; rfl))) eL_call w179 (by decide) rfl rfl (Nat.le_of_ble_eq_true rfl) (by omega) (Nat.le_trans (show c + 7 ≤ 400 by omega) E.2.1) (Nat.le_trans (show 6 * (c + 7) ≤ 6 * 400 by omega) E.2.2) (fun v S32 hS32 => ?_)
            obtain ⟨rfl, A32, K32⟩ := hS32
            have T32 := kp_t T30 K32
            have B33 := gB_K (c := c + 7) B31 (Nat.le_trans (show c + 7 ≤ 400 by omega) E.2.1) (Nat.le_trans (show 6 * (c + 7) ≤ 6 * 400 by omega) E.2.2)
            show gW Y (xK X (c + 7)) S32 846 [(0, .ref (yA Y 72)), (1, .int (iI (pG P 0))), (2, .int (iI (runsF (pG P)))), (3, .int (iI (pG P 4))), (4, .int (iI (pG P 1))), (5, .int (iI 1)), (6, .int (iI (pG P 0))), (7, .int (iI nb)), (8, .int (iI tot)), (9, .int (iI gg)), (10, .int (iI hv)), (11, .int (iI fw)), (13, .int (iI ll)), (14, .int (iI m))] [.int (iI f5)]
            refine g_if_eq (t := 881) (q := 849) B33 dL_holds_846 (by decide) rfl ⟨by omega, by omega⟩ (fun cq846 => absurd cq846 (by omega)) (fun cq846 => ?_)
            refine g_aload_n (q := 850) B33 dL_holds_849 rfl 0 rfl ?_
            refine g_iconst (q := 851) B33 dL_holds_850 rfl ?_
            refine g_iconst (q := 852) B33 dL_holds_851 rfl ?_
            refine g_iconst (q := 853) B33 dL_holds_852 rfl ?_
            refine g_iconst (q := 854) B33 dL_holds_853 rfl ?_
            refine g_callN (q := 857) (m1 := 1) (c2 := c + 8) (As := [.ref (yA Y 72), .int (iI 2), .int (iI 2), .int (iI 0), .int (iI 0)]) (st := []) B33 dL_holds_854 rfl (k_about (Y := Y) (S := S32) hst A32 W 2 ⟨by omega, by omega⟩ 0 0 (x := cc) (hx := hcc)) eL_call w179 (by decide) rfl rfl (Nat.le_of_ble_eq_true rfl) (by omega) (Nat.le_trans (show c + 8 ≤ 400 by omega) E.2.1) (Nat.le_trans (show 6 * (c + 8) ≤ 6 * 400 by omega) E.2.2) (fun v S34 hS34 => ?_)
            obtain ⟨rfl, A34, K34⟩ := hS34
            have T34 := kp_t T32 K34
            have B35 := gB_K (c := c + 8) B33 (Nat.le_trans (show c + 8 ≤ 400 by omega) E.2.1) (Nat.le_trans (show 6 * (c + 8) ≤ 6 * 400 by omega) E.2.2)
            show gW Y (xK X (c + 8)) S34 857 [(0, .ref (yA Y 72)), (1, .int (iI (pG P 0))), (2, .int (iI (runsF (pG P)))), (3, .int (iI (pG P 4))), (4, .int (iI (pG P 1))), (5, .int (iI 1)), (6, .int (iI (pG P 0))), (7, .int (iI nb)), (8, .int (iI tot)), (9, .int (iI gg)), (10, .int (iI hv)), (11, .int (iI fw)), (13, .int (iI ll)), (14, .int (iI m))] [.int (iI cc)]
            refine g_bipush (q := 859) B35 dL_holds_857 rfl (by decide) ?_
            refine g_icmp_gt (t := 881) (q := 862) B35 dL_holds_859 (by decide) rfl ⟨by omega, by omega⟩ ⟨by omega, by omega⟩ (fun cq859 => ?_) (fun cq859 => ?_)
            · refine g_iconst (q := 882) B35 dL_holds_881 rfl ?_
              refine g_goto (q := 886) B35 dL_holds_882 (by decide) ?_
              exact gn_zret B35 E (by omega) dL_holds_886 rfl (by decide) ⟨rfl, A34, T34⟩
            · have ff2 := ff1 (by omega)
              refine g_iload (q := 864) B35 dL_holds_862 rfl 11 rfl ?_
              refine g_iconst (q := 865) B35 dL_holds_864 rfl ?_
              refine g_icmp_eq (t := 885) (q := 868) B35 dL_holds_865 (by decide) rfl ⟨by omega, by omega⟩ ⟨by omega, by omega⟩ (fun cq865 => absurd cq865 (by omega)) (fun cq865 => ?_)
              refine g_iload (q := 870) B35 dL_holds_868 rfl 11 rfl ?_
              refine g_aload_n (q := 871) B35 dL_holds_870 rfl 0 rfl ?_
              refine g_iconst (q := 872) B35 dL_holds_871 rfl ?_
              refine g_iconst (q := 873) B35 dL_holds_872 rfl ?_
              refine g_iconst (q := 874) B35 dL_holds_873 rfl ?_
              refine g_iconst (q := 875) B35 dL_holds_874 rfl ?_
              refine g_callN (q := 878) (m1 := 1) (c2 := c + 9) (As := [.ref (yA Y 72), .int (iI 2), .int (iI 2), .int (iI 0), .int (iI 0)]) (st := [.int (iI fw)]) B35 dL_holds_875 rfl (k_about (Y := Y) (S := S34) hst A34 W 2 ⟨by omega, by omega⟩ 0 0 (x := cc) (hx := hcc)) eL_call w179 (by decide) rfl rfl (Nat.le_of_ble_eq_true rfl) (by omega) (Nat.le_trans (show c + 9 ≤ 400 by omega) E.2.1) (Nat.le_trans (show 6 * (c + 9) ≤ 6 * 400 by omega) E.2.2) (fun v S36 hS36 => ?_)
              obtain ⟨rfl, A36, K36⟩ := hS36
              have T36 := kp_t T34 K36
              have B37 := gB_K (c := c + 9) B35 (Nat.le_trans (show c + 9 ≤ 400 by omega) E.2.1) (Nat.le_trans (show 6 * (c + 9) ≤ 6 * 400 by omega) E.2.2)
              show gW Y (xK X (c + 9)) S36 878 [(0, .ref (yA Y 72)), (1, .int (iI (pG P 0))), (2, .int (iI (runsF (pG P)))), (3, .int (iI (pG P 4))), (4, .int (iI (pG P 1))), (5, .int (iI 1)), (6, .int (iI (pG P 0))), (7, .int (iI nb)), (8, .int (iI tot)), (9, .int (iI gg)), (10, .int (iI hv)), (11, .int (iI fw)), (13, .int (iI ll)), (14, .int (iI m))] [.int (iI cc), .int (iI fw)]
              refine g_icmp_gt (t := 885) (q := 881) B37 dL_holds_878 (by decide) rfl ⟨by omega, by omega⟩ ⟨by omega, by omega⟩ (fun cq878 => absurd cq878 (by omega)) (fun cq878 => ?_)
              refine g_iconst (q := 882) B37 dL_holds_881 rfl ?_
              refine g_goto (q := 886) B37 dL_holds_882 (by decide) ?_
              exact gn_zret B37 E (by omega) dL_holds_886 rfl (by decide) ⟨rfl, A36, T36⟩
      · refine g_iload (q := 612) B1 dL_holds_610 rfl 5 rfl ?_
        refine g_if_eq (t := 698) (q := 615) B1 dL_holds_612 (by decide) rfl ⟨by omega, by omega⟩ (fun cq612 => absurd cq612 (by decide)) (fun cq612 => ?_)
        obtain ⟨li, hli⟩ : ∃ z : Int, lgF (pG P) m.toNat = z := ⟨_, rfl⟩
        have lgm := lg_is hw (m := m.toNat) (by omega)
        rw [hli, hfw, htot] at lgm
        have lgl := lg_mono hw (m := (m - 1).toNat) (by omega)
        rw [show (m - 1).toNat + 1 = m.toNat by omega, hli, ← hll] at lgl
        have lgu := lg_le hw (m - 1).toNat (by omega)
        rw [← hll, htot] at lgu
        have lgz := (lg_is hw (m := (m - 1).toNat) (by omega)).1
        rw [← hll] at lgz
        have lga : li = 0 → fw ≠ -1 ∧ fw ≤ m := fun z => by have := lgm.2.2.mp z; omega
        have lgb : fw ≠ -1 → fw ≤ m → li = 0 := fun z z2 => lgm.2.2.mpr ⟨z, by omega⟩
        have lgp := lgm.2.1
        have lgq := lgm.1
        refine g_aload_n (q := 616) B1 dL_holds_615 rfl 0 rfl ?_
        refine g_bipush (q := 618) B1 dL_holds_616 rfl (by decide) ?_
        refine g_iload (q := 620) B1 dL_holds_618 rfl 13 rfl ?_
        refine g_iconst (q := 621) B1 dL_holds_620 rfl ?_
        refine g_iconst (q := 622) B1 dL_holds_621 rfl ?_
        refine g_callN (q := 625) (m1 := 1) (c2 := c + 1) (As := [.ref (yA Y 72), .int (iI 18), .int (iI m), .int (iI 0), .int (iI 0)]) (st := []) B1 dL_holds_622 rfl (k_leastGap (Y := Y) (S := S1) hst A1 W m ⟨by omega, by omega⟩ 0 0 (x := li) (hx := (tv_0 (if_pos (by omega))).trans hli)) eL_call w179 (by decide) rfl rfl (Nat.le_of_ble_eq_true rfl) (by omega) (Nat.le_trans (show c + 1 ≤ 400 by omega) E.2.1) (Nat.le_trans (show 6 * (c + 1) ≤ 6 * 400 by omega) E.2.2) (fun v S38 hS38 => ?_)
        obtain ⟨rfl, A38, K38⟩ := hS38
        have T38 := kp_t T1 K38
        have B39 := gB_K (c := c + 1) B1 (Nat.le_trans (show c + 1 ≤ 400 by omega) E.2.1) (Nat.le_trans (show 6 * (c + 1) ≤ 6 * 400 by omega) E.2.2)
        show gW Y (xK X (c + 1)) S38 625 [(0, .ref (yA Y 72)), (1, .int (iI (pG P 0))), (2, .int (iI (runsF (pG P)))), (3, .int (iI (pG P 4))), (4, .int (iI (pG P 1))), (5, .int (iI 1)), (6, .int (iI (pG P 0))), (7, .int (iI nb)), (8, .int (iI tot)), (9, .int (iI gg)), (10, .int (iI hv)), (11, .int (iI fw)), (13, .int (iI ll)), (14, .int (iI m))] [.int (iI li)]
        refine g_istore (q := 627) B39 dL_holds_625 rfl (by decide) (L' := [(15, .int (iI li)), (0, .ref (yA Y 72)), (1, .int (iI (pG P 0))), (2, .int (iI (runsF (pG P)))), (3, .int (iI (pG P 4))), (4, .int (iI (pG P 1))), (5, .int (iI 1)), (6, .int (iI (pG P 0))), (7, .int (iI nb)), (8, .int (iI tot)), (9, .int (iI gg)), (10, .int (iI hv)), (11, .int (iI fw)), (13, .int (iI ll)), (14, .int (iI m))]) rfl ?_
        refine g_iload (q := 629) B39 dL_holds_627 rfl 0 rfl ?_
        refine g_iload (q := 631) B39 dL_holds_629 rfl 13 rfl ?_
        refine g_icmp_gt (t := 685) (q := 634) B39 dL_holds_631 (by decide) rfl ⟨by omega, by omega⟩ ⟨by omega, by omega⟩ (fun cq631 => absurd cq631 (by omega)) (fun cq631 => ?_)
        refine g_iload (q := 636) B39 dL_holds_634 rfl 0 rfl ?_
        refine g_if_lt (t := 685) (q := 639) B39 dL_holds_636 (by decide) rfl ⟨by omega, by omega⟩ (fun cq636 => absurd cq636 (by omega)) (fun cq636 => ?_)
        refine g_iload (q := 641) B39 dL_holds_639 rfl 0 rfl ?_
        refine g_if_ne (t := 648) (q := 644) B39 dL_holds_641 (by decide) rfl ⟨by omega, by omega⟩ (fun cq641 => ?_) (fun cq641 => ?_)
        · refine g_iconst (q := 649) B39 dL_holds_648 rfl ?_
          refine g_iload (q := 651) B39 dL_holds_649 rfl 12 rfl ?_
          refine g_iconst (q := 652) B39 dL_holds_651 rfl ?_
          refine g_icmp_eq (t := 666) (q := 655) B39 dL_holds_652 (by decide) rfl ⟨by omega, by omega⟩ ⟨by omega, by omega⟩ (fun cq652 => ?_) (fun cq652 => ?_)
          · refine g_iconst (q := 667) B39 dL_holds_666 rfl ?_
            refine g_icmp_ne (t := 685) (q := 670) B39 dL_holds_667 (by decide) rfl ⟨by omega, by omega⟩ ⟨by omega, by omega⟩ (fun cq667 => absurd cq667 (by decide)) (fun cq667 => ?_)
            refine g_iload (q := 672) B39 dL_holds_670 rfl 0 rfl ?_
            refine g_iconst (q := 673) B39 dL_holds_672 rfl ?_
            refine g_irem (q := 674) B39 dL_holds_673 rfl (by omega) (by omega) (by omega) (by omega) ?_
            refine g_iload (q := 676) B39 dL_holds_674 rfl 9 rfl ?_
            refine g_iconst (q := 677) B39 dL_holds_676 rfl ?_
            refine g_irem (q := 678) B39 dL_holds_677 rfl (by omega) (by omega) (by omega) (by omega) ?_
            refine g_icmp_ne (t := 685) (q := 681) B39 dL_holds_678 (by decide) rfl ⟨by omega, by omega⟩ ⟨by omega, by omega⟩ (fun cq678 => absurd cq678 (by omega)) (fun cq678 => ?_)
            refine g_iconst (q := 682) B39 dL_holds_681 rfl ?_
            refine g_goto (q := 686) B39 dL_holds_682 (by decide) ?_
            refine g_istore (q := 688) B39 dL_holds_686 rfl (by decide) (L' := [(5, .int (iI 1)), (15, .int (iI li)), (0, .ref (yA Y 72)), (1, .int (iI (pG P 0))), (2, .int (iI (runsF (pG P)))), (3, .int (iI (pG P 4))), (4, .int (iI (pG P 1))), (6, .int (iI (pG P 0))), (7, .int (iI nb)), (8, .int (iI tot)), (9, .int (iI gg)), (10, .int (iI hv)), (11, .int (iI fw)), (13, .int (iI ll)), (14, .int (iI m))]) rfl ?_
            refine g_iload (q := 690) B39 dL_holds_688 rfl 1 rfl ?_
            refine g_istore (q := 692) B39 dL_holds_690 rfl (by decide) (L' := [(13, .int (iI li)), (5, .int (iI 1)), (15, .int (iI li)), (0, .ref (yA Y 72)), (1, .int (iI (pG P 0))), (2, .int (iI (runsF (pG P)))), (3, .int (iI (pG P 4))), (4, .int (iI (pG P 1))), (6, .int (iI (pG P 0))), (7, .int (iI nb)), (8, .int (iI tot)), (9, .int (iI gg)), (10, .int (iI hv)), (11, .int (iI fw)), (14, .int (iI m))]) rfl ?_
            refine g_iinc (n := 14) (q := 695) B39 dL_holds_692 rfl rfl (by decide) (L' := [(14, .int (iI (m + 1))), (13, .int (iI li)), (5, .int (iI 1)), (15, .int (iI li)), (0, .ref (yA Y 72)), (1, .int (iI (pG P 0))), (2, .int (iI (runsF (pG P)))), (3, .int (iI (pG P 4))), (4, .int (iI (pG P 1))), (6, .int (iI (pG P 0))), (7, .int (iI nb)), (8, .int (iI tot)), (9, .int (iI gg)), (10, .int (iI hv)), (11, .int (iI fw))]) rfl ?_
            refine g_goto (q := 604) B39 dL_holds_695 (by decide) ?_
            refine g_sub [4, 5, 6, 7, 8, 2, 9, 10, 11, 12, 13, 14, 1, 0] rfl ?_
            exact ih (m + 1) li (c + 1) S38 A38 T38 B39 (by omega) (by omega) (by rw [show (m + 1 - 1).toNat = m.toNat by omega]; exact hli.symm) (by omega) (by omega)
          · refine g_iload (q := 657) B39 dL_holds_655 rfl 12 rfl ?_
            refine g_iload (q := 659) B39 dL_holds_657 rfl 14 rfl ?_
            refine g_icmp_gt (t := 666) (q := 662) B39 dL_holds_659 (by decide) rfl ⟨by omega, by omega⟩ ⟨by omega, by omega⟩ (fun cq659 => ?_) (fun cq659 => absurd cq659 (by omega))
            refine g_iconst (q := 667) B39 dL_holds_666 rfl ?_
            refine g_icmp_ne (t := 685) (q := 670) B39 dL_holds_667 (by decide) rfl ⟨by omega, by omega⟩ ⟨by omega, by omega⟩ (fun cq667 => absurd cq667 (by decide)) (fun cq667 => ?_)
            refine g_iload (q := 672) B39 dL_holds_670 rfl 0 rfl ?_
            refine g_iconst (q := 673) B39 dL_holds_672 rfl ?_
            refine g_irem (q := 674) B39 dL_holds_673 rfl (by omega) (by omega) (by omega) (by omega) ?_
            refine g_iload (q := 676) B39 dL_holds_674 rfl 9 rfl ?_
            refine g_iconst (q := 677) B39 dL_holds_676 rfl ?_
            refine g_irem (q := 678) B39 dL_holds_677 rfl (by omega) (by omega) (by omega) (by omega) ?_
            refine g_icmp_ne (t := 685) (q := 681) B39 dL_holds_678 (by decide) rfl ⟨by omega, by omega⟩ ⟨by omega, by omega⟩ (fun cq678 => absurd cq678 (by omega)) (fun cq678 => ?_)
            refine g_iconst (q := 682) B39 dL_holds_681 rfl ?_
            refine g_goto (q := 686) B39 dL_holds_682 (by decide) ?_
            refine g_istore (q := 688) B39 dL_holds_686 rfl (by decide) (L' := [(5, .int (iI 1)), (15, .int (iI li)), (0, .ref (yA Y 72)), (1, .int (iI (pG P 0))), (2, .int (iI (runsF (pG P)))), (3, .int (iI (pG P 4))), (4, .int (iI (pG P 1))), (6, .int (iI (pG P 0))), (7, .int (iI nb)), (8, .int (iI tot)), (9, .int (iI gg)), (10, .int (iI hv)), (11, .int (iI fw)), (13, .int (iI ll)), (14, .int (iI m))]) rfl ?_
            refine g_iload (q := 690) B39 dL_holds_688 rfl 1 rfl ?_
            refine g_istore (q := 692) B39 dL_holds_690 rfl (by decide) (L' := [(13, .int (iI li)), (5, .int (iI 1)), (15, .int (iI li)), (0, .ref (yA Y 72)), (1, .int (iI (pG P 0))), (2, .int (iI (runsF (pG P)))), (3, .int (iI (pG P 4))), (4, .int (iI (pG P 1))), (6, .int (iI (pG P 0))), (7, .int (iI nb)), (8, .int (iI tot)), (9, .int (iI gg)), (10, .int (iI hv)), (11, .int (iI fw)), (14, .int (iI m))]) rfl ?_
            refine g_iinc (n := 14) (q := 695) B39 dL_holds_692 rfl rfl (by decide) (L' := [(14, .int (iI (m + 1))), (13, .int (iI li)), (5, .int (iI 1)), (15, .int (iI li)), (0, .ref (yA Y 72)), (1, .int (iI (pG P 0))), (2, .int (iI (runsF (pG P)))), (3, .int (iI (pG P 4))), (4, .int (iI (pG P 1))), (6, .int (iI (pG P 0))), (7, .int (iI nb)), (8, .int (iI tot)), (9, .int (iI gg)), (10, .int (iI hv)), (11, .int (iI fw))]) rfl ?_
            refine g_goto (q := 604) B39 dL_holds_695 (by decide) ?_
            refine g_sub [4, 5, 6, 7, 8, 2, 9, 10, 11, 12, 13, 14, 1, 0] rfl ?_
            exact ih (m + 1) li (c + 1) S38 A38 T38 B39 (by omega) (by omega) (by rw [show (m + 1 - 1).toNat = m.toNat by omega]; exact hli.symm) (by omega) (by omega)
        · refine g_iconst (q := 645) B39 dL_holds_644 rfl ?_
          refine g_goto (q := 649) B39 dL_holds_645 (by decide) ?_
          refine g_iload (q := 651) B39 dL_holds_649 rfl 12 rfl ?_
          refine g_iconst (q := 652) B39 dL_holds_651 rfl ?_
          refine g_icmp_eq (t := 666) (q := 655) B39 dL_holds_652 (by decide) rfl ⟨by omega, by omega⟩ ⟨by omega, by omega⟩ (fun cq652 => absurd cq652 (by omega)) (fun cq652 => ?_)
          refine g_iload (q := 657) B39 dL_holds_655 rfl 12 rfl ?_
          refine g_iload (q := 659) B39 dL_holds_657 rfl 14 rfl ?_
          refine g_icmp_gt (t := 666) (q := 662) B39 dL_holds_659 (by decide) rfl ⟨by omega, by omega⟩ ⟨by omega, by omega⟩ (fun cq659 => absurd cq659 (by omega)) (fun cq659 => ?_)
          refine g_iconst (q := 663) B39 dL_holds_662 rfl ?_
          refine g_goto (q := 667) B39 dL_holds_663 (by decide) ?_
          refine g_icmp_ne (t := 685) (q := 670) B39 dL_holds_667 (by decide) rfl ⟨by omega, by omega⟩ ⟨by omega, by omega⟩ (fun cq667 => absurd cq667 (by decide)) (fun cq667 => ?_)
          refine g_iload (q := 672) B39 dL_holds_670 rfl 0 rfl ?_
          refine g_iconst (q := 673) B39 dL_holds_672 rfl ?_
          refine g_irem (q := 674) B39 dL_holds_673 rfl (by omega) (by omega) (by omega) (by omega) ?_
          refine g_iload (q := 676) B39 dL_holds_674 rfl 9 rfl ?_
          refine g_iconst (q := 677) B39 dL_holds_676 rfl ?_
          refine g_irem (q := 678) B39 dL_holds_677 rfl (by omega) (by omega) (by omega) (by omega) ?_
          refine g_icmp_ne (t := 685) (q := 681) B39 dL_holds_678 (by decide) rfl ⟨by omega, by omega⟩ ⟨by omega, by omega⟩ (fun cq678 => absurd cq678 (by omega)) (fun cq678 => ?_)
          refine g_iconst (q := 682) B39 dL_holds_681 rfl ?_
          refine g_goto (q := 686) B39 dL_holds_682 (by decide) ?_
          refine g_istore (q := 688) B39 dL_holds_686 rfl (by decide) (L' := [(5, .int (iI 1)), (15, .int (iI li)), (0, .ref (yA Y 72)), (1, .int (iI (pG P 0))), (2, .int (iI (runsF (pG P)))), (3, .int (iI (pG P 4))), (4, .int (iI (pG P 1))), (6, .int (iI (pG P 0))), (7, .int (iI nb)), (8, .int (iI tot)), (9, .int (iI gg)), (10, .int (iI hv)), (11, .int (iI fw)), (13, .int (iI ll)), (14, .int (iI m))]) rfl ?_
          refine g_iload (q := 690) B39 dL_holds_688 rfl 1 rfl ?_
          refine g_istore (q := 692) B39 dL_holds_690 rfl (by decide) (L' := [(13, .int (iI li)), (5, .int (iI 1)), (15, .int (iI li)), (0, .ref (yA Y 72)), (1, .int (iI (pG P 0))), (2, .int (iI (runsF (pG P)))), (3, .int (iI (pG P 4))), (4, .int (iI (pG P 1))), (6, .int (iI (pG P 0))), (7, .int (iI nb)), (8, .int (iI tot)), (9, .int (iI gg)), (10, .int (iI hv)), (11, .int (iI fw)), (14, .int (iI m))]) rfl ?_
          refine g_iinc (n := 14) (q := 695) B39 dL_holds_692 rfl rfl (by decide) (L' := [(14, .int (iI (m + 1))), (13, .int (iI li)), (5, .int (iI 1)), (15, .int (iI li)), (0, .ref (yA Y 72)), (1, .int (iI (pG P 0))), (2, .int (iI (runsF (pG P)))), (3, .int (iI (pG P 4))), (4, .int (iI (pG P 1))), (6, .int (iI (pG P 0))), (7, .int (iI nb)), (8, .int (iI tot)), (9, .int (iI gg)), (10, .int (iI hv)), (11, .int (iI fw))]) rfl ?_
          refine g_goto (q := 604) B39 dL_holds_695 (by decide) ?_
          refine g_sub [4, 5, 6, 7, 8, 2, 9, 10, 11, 12, 13, 14, 1, 0] rfl ?_
          exact ih (m + 1) li (c + 1) S38 A38 T38 B39 (by omega) (by omega) (by rw [show (m + 1 - 1).toNat = m.toNat by omega]; exact hli.symm) (by omega) (by omega)
  have lp496 : ∀ (fu : Nat) (k : Int) (la : Int) (c : Nat) (S1 : SS), PK P S1 → kp S S1 → gB Y (xK X c) "NecklaceSistersLaw" cL_holds 16 (some .boolean) 50 → 0 ≤ k → k ≤ 8 → ((k = 0 ∧ la = 0) ∨ (0 < k ∧ la = divF (pG P) (k - 1))) → (-1 ≤ la ∧ la ≤ 16) → (c : Int) ≤ 310 + k → (8 - k).toNat < fu → gW Y (xK X c) S1 496 [(0, .ref (yA Y 72)), (1, .int (iI (pG P 0))), (2, .int (iI (runsF (pG P)))), (3, .int (iI (pG P 4))), (4, .int (iI (pG P 1))), (5, .int (iI 1)), (6, .int (iI (pG P 0))), (7, .int (iI nb)), (8, .int (iI tot)), (9, .int (iI gg)), (10, .int (iI hv)), (11, .int (iI fw)), (12, .int (iI la)), (13, .int (iI k))] [] := by
    intro fu
    induction fu with
    | zero =>
      intro k la c S1 _ _ _ _ _ _ _ _ h
      exact absurd h (Nat.not_lt_zero _)
    | succ fu ih =>
      intro k la c S1 A1 T1 B1 k0 k1 hla rla hc hfu
      refine g_iload (q := 498) B1 dL_holds_496 rfl 13 rfl ?_
      refine g_bipush (q := 500) B1 dL_holds_498 rfl (by decide) ?_
      refine g_icmp_ge (t := 571) (q := 503) B1 dL_holds_500 (by decide) rfl ⟨by omega, by omega⟩ ⟨by omega, by omega⟩ (fun cq500 => ?_) (fun cq500 => ?_)
      · refine g_aload_n (q := 572) B1 dL_holds_571 rfl 0 rfl ?_
        refine g_bipush (q := 574) B1 dL_holds_572 rfl (by decide) ?_
        refine g_iconst (q := 575) B1 dL_holds_574 rfl ?_
        refine g_iconst (q := 576) B1 dL_holds_575 rfl ?_
        refine g_iconst (q := 577) B1 dL_holds_576 rfl ?_
        refine g_callN (q := 580) (m1 := 1) (c2 := c + 1) (As := [.ref (yA Y 72), .int (iI 18), .int (iI 0), .int (iI 0), .int (iI 0)]) (st := []) B1 dL_holds_577 rfl (k_leastGap (Y := Y) (S := S1) hst A1 W 0 ⟨by omega, by omega⟩ 0 0 (x := tot) (hx := (lg_0 hw).trans htot)) eL_call w179 (by decide) rfl rfl (Nat.le_of_ble_eq_true rfl) (by omega) (Nat.le_trans (show c + 1 ≤ 400 by omega) E.2.1) (Nat.le_trans (show 6 * (c + 1) ≤ 6 * 400 by omega) E.2.2) (fun v S40 hS40 => ?_)
        obtain ⟨rfl, A40, K40⟩ := hS40
        have T40 := kp_t T1 K40
        have B41 := gB_K (c := c + 1) B1 (Nat.le_trans (show c + 1 ≤ 400 by omega) E.2.1) (Nat.le_trans (show 6 * (c + 1) ≤ 6 * 400 by omega) E.2.2)
        show gW Y (xK X (c + 1)) S40 580 [(0, .ref (yA Y 72)), (1, .int (iI (pG P 0))), (2, .int (iI (runsF (pG P)))), (3, .int (iI (pG P 4))), (4, .int (iI (pG P 1))), (5, .int (iI 1)), (6, .int (iI (pG P 0))), (7, .int (iI nb)), (8, .int (iI tot)), (9, .int (iI gg)), (10, .int (iI hv)), (11, .int (iI fw)), (12, .int (iI la)), (13, .int (iI k))] [.int (iI tot)]
        refine g_istore (q := 582) B41 dL_holds_580 rfl (by decide) (L' := [(13, .int (iI tot)), (0, .ref (yA Y 72)), (1, .int (iI (pG P 0))), (2, .int (iI (runsF (pG P)))), (3, .int (iI (pG P 4))), (4, .int (iI (pG P 1))), (5, .int (iI 1)), (6, .int (iI (pG P 0))), (7, .int (iI nb)), (8, .int (iI tot)), (9, .int (iI gg)), (10, .int (iI hv)), (11, .int (iI fw)), (12, .int (iI la))]) rfl ?_
        refine g_iload (q := 584) B41 dL_holds_582 rfl 6 rfl ?_
        refine g_if_eq (t := 598) (q := 587) B41 dL_holds_584 (by decide) rfl ⟨by omega, by omega⟩ (fun cq584 => absurd cq584 (by decide)) (fun cq584 => ?_)
        refine g_iload (q := 589) B41 dL_holds_587 rfl 0 rfl ?_
        refine g_iload (q := 591) B41 dL_holds_589 rfl 9 rfl ?_
        refine g_icmp_ne (t := 598) (q := 594) B41 dL_holds_591 (by decide) rfl ⟨by omega, by omega⟩ ⟨by omega, by omega⟩ (fun cq591 => absurd cq591 (by omega)) (fun cq591 => ?_)
        refine g_iconst (q := 595) B41 dL_holds_594 rfl ?_
        refine g_goto (q := 599) B41 dL_holds_595 (by decide) ?_
        refine g_istore (q := 601) B41 dL_holds_599 rfl (by decide) (L' := [(5, .int (iI 1)), (13, .int (iI tot)), (0, .ref (yA Y 72)), (1, .int (iI (pG P 0))), (2, .int (iI (runsF (pG P)))), (3, .int (iI (pG P 4))), (4, .int (iI (pG P 1))), (6, .int (iI (pG P 0))), (7, .int (iI nb)), (8, .int (iI tot)), (9, .int (iI gg)), (10, .int (iI hv)), (11, .int (iI fw)), (12, .int (iI la))]) rfl ?_
        refine g_iconst (q := 602) B41 dL_holds_601 rfl ?_
        refine g_istore (q := 604) B41 dL_holds_602 rfl (by decide) (L' := [(14, .int (iI 1)), (5, .int (iI 1)), (13, .int (iI tot)), (0, .ref (yA Y 72)), (1, .int (iI (pG P 0))), (2, .int (iI (runsF (pG P)))), (3, .int (iI (pG P 4))), (4, .int (iI (pG P 1))), (6, .int (iI (pG P 0))), (7, .int (iI nb)), (8, .int (iI tot)), (9, .int (iI gg)), (10, .int (iI hv)), (11, .int (iI fw)), (12, .int (iI la))]) rfl ?_
        refine g_sub [3, 4, 5, 6, 7, 1, 8, 9, 10, 11, 12, 13, 2, 0] rfl ?_
        exact lp604 _ 1 tot (c + 1) S40 A40 T40 B41 (by omega) (by omega) (htot.symm.trans (lg_0 hw).symm) (by omega) (Nat.lt_succ_self _)
      · refine g_iload (q := 505) B1 dL_holds_503 rfl 5 rfl ?_
        refine g_if_eq (t := 571) (q := 508) B1 dL_holds_505 (by decide) rfl ⟨by omega, by omega⟩ (fun cq505 => absurd cq505 (by decide)) (fun cq505 => ?_)
        obtain ⟨dk, hdk⟩ : ∃ z : Int, divF (pG P) k = z := ⟨_, rfl⟩
        have rdk := div_in hw k0
        rw [hdk] at rdk
        refine g_aload_n (q := 509) B1 dL_holds_508 rfl 0 rfl ?_
        refine g_bipush (q := 511) B1 dL_holds_509 rfl (by decide) ?_
        refine g_iload (q := 513) B1 dL_holds_511 rfl 13 rfl ?_
        refine g_iconst (q := 514) B1 dL_holds_513 rfl ?_
        refine g_iconst (q := 515) B1 dL_holds_514 rfl ?_
        refine g_callN (q := 518) (m1 := 1) (c2 := c + 1) (As := [.ref (yA Y 72), .int (iI 17), .int (iI k), .int (iI 0), .int (iI 0)]) (st := []) B1 dL_holds_515 rfl (k_divided (Y := Y) (S := S1) hst A1 W k ⟨by omega, by omega⟩ 0 0 (x := dk) (hx := (tv_0 (if_pos (by omega))).trans hdk)) eL_call w179 (by decide) rfl rfl (Nat.le_of_ble_eq_true rfl) (by omega) (Nat.le_trans (show c + 1 ≤ 400 by omega) E.2.1) (Nat.le_trans (show 6 * (c + 1) ≤ 6 * 400 by omega) E.2.2) (fun v S42 hS42 => ?_)
        obtain ⟨rfl, A42, K42⟩ := hS42
        have T42 := kp_t T1 K42
        have B43 := gB_K (c := c + 1) B1 (Nat.le_trans (show c + 1 ≤ 400 by omega) E.2.1) (Nat.le_trans (show 6 * (c + 1) ≤ 6 * 400 by omega) E.2.2)
        show gW Y (xK X (c + 1)) S42 518 [(0, .ref (yA Y 72)), (1, .int (iI (pG P 0))), (2, .int (iI (runsF (pG P)))), (3, .int (iI (pG P 4))), (4, .int (iI (pG P 1))), (5, .int (iI 1)), (6, .int (iI (pG P 0))), (7, .int (iI nb)), (8, .int (iI tot)), (9, .int (iI gg)), (10, .int (iI hv)), (11, .int (iI fw)), (12, .int (iI la)), (13, .int (iI k))] [.int (iI dk)]
        refine g_istore (q := 520) B43 dL_holds_518 rfl (by decide) (L' := [(14, .int (iI dk)), (0, .ref (yA Y 72)), (1, .int (iI (pG P 0))), (2, .int (iI (runsF (pG P)))), (3, .int (iI (pG P 4))), (4, .int (iI (pG P 1))), (5, .int (iI 1)), (6, .int (iI (pG P 0))), (7, .int (iI nb)), (8, .int (iI tot)), (9, .int (iI gg)), (10, .int (iI hv)), (11, .int (iI fw)), (12, .int (iI la)), (13, .int (iI k))]) rfl ?_
        refine g_iload (q := 522) B43 dL_holds_520 rfl 14 rfl ?_
        refine g_iload (q := 524) B43 dL_holds_522 rfl 12 rfl ?_
        refine g_icmp_ge (t := 548) (q := 527) B43 dL_holds_524 (by decide) rfl ⟨by omega, by omega⟩ ⟨by omega, by omega⟩ (fun cq524 => ?_) (fun cq524 => ?_)
        · have dn : dk = -1 := hdk.symm.trans (div_no (by rw [hfw]; omega))
          refine g_iload (q := 550) B43 dL_holds_548 rfl 0 rfl ?_
          refine g_iconst (q := 551) B43 dL_holds_550 rfl ?_
          refine g_icmp_ne (t := 558) (q := 554) B43 dL_holds_551 (by decide) rfl ⟨by omega, by omega⟩ ⟨by omega, by omega⟩ (fun cq551 => absurd cq551 (by omega)) (fun cq551 => ?_)
          refine g_iconst (q := 555) B43 dL_holds_554 rfl ?_
          refine g_goto (q := 559) B43 dL_holds_555 (by decide) ?_
          refine g_istore (q := 561) B43 dL_holds_559 rfl (by decide) (L' := [(5, .int (iI 1)), (14, .int (iI dk)), (0, .ref (yA Y 72)), (1, .int (iI (pG P 0))), (2, .int (iI (runsF (pG P)))), (3, .int (iI (pG P 4))), (4, .int (iI (pG P 1))), (6, .int (iI (pG P 0))), (7, .int (iI nb)), (8, .int (iI tot)), (9, .int (iI gg)), (10, .int (iI hv)), (11, .int (iI fw)), (12, .int (iI la)), (13, .int (iI k))]) rfl ?_
          refine g_iload (q := 563) B43 dL_holds_561 rfl 1 rfl ?_
          refine g_istore (q := 565) B43 dL_holds_563 rfl (by decide) (L' := [(12, .int (iI dk)), (5, .int (iI 1)), (14, .int (iI dk)), (0, .ref (yA Y 72)), (1, .int (iI (pG P 0))), (2, .int (iI (runsF (pG P)))), (3, .int (iI (pG P 4))), (4, .int (iI (pG P 1))), (6, .int (iI (pG P 0))), (7, .int (iI nb)), (8, .int (iI tot)), (9, .int (iI gg)), (10, .int (iI hv)), (11, .int (iI fw)), (13, .int (iI k))]) rfl ?_
          refine g_iinc (n := 14) (q := 568) B43 dL_holds_565 rfl rfl (by decide) (L' := [(13, .int (iI (k + 1))), (12, .int (iI dk)), (5, .int (iI 1)), (14, .int (iI dk)), (0, .ref (yA Y 72)), (1, .int (iI (pG P 0))), (2, .int (iI (runsF (pG P)))), (3, .int (iI (pG P 4))), (4, .int (iI (pG P 1))), (6, .int (iI (pG P 0))), (7, .int (iI nb)), (8, .int (iI tot)), (9, .int (iI gg)), (10, .int (iI hv)), (11, .int (iI fw))]) rfl ?_
          refine g_goto (q := 496) B43 dL_holds_568 (by decide) ?_
          refine g_sub [4, 5, 6, 7, 8, 2, 9, 10, 11, 12, 13, 14, 1, 0] rfl ?_
          exact ih (k + 1) dk (c + 1) S42 A42 T42 B43 (by omega) (by omega) (Or.inr ⟨by omega, by rw [show k + 1 - 1 = k by omega]; exact hdk.symm⟩) rdk (by omega) (by omega)
        · have dr := div_rise hw k0 (by rw [hfw]; omega)
          rw [hdk] at dr
          refine g_iload (q := 529) B43 dL_holds_527 rfl 0 rfl ?_
          refine g_iload (q := 531) B43 dL_holds_529 rfl 13 rfl ?_
          refine g_icmp_le (t := 544) (q := 534) B43 dL_holds_531 (by decide) rfl ⟨by omega, by omega⟩ ⟨by omega, by omega⟩ (fun cq531 => absurd cq531 (by omega)) (fun cq531 => ?_)
          refine g_iload (q := 536) B43 dL_holds_534 rfl 0 rfl ?_
          refine g_iload_n (q := 537) B43 dL_holds_536 rfl 2 rfl ?_
          refine g_icmp_ge (t := 544) (q := 540) B43 dL_holds_537 (by decide) rfl ⟨by omega, by omega⟩ ⟨by omega, by omega⟩ (fun cq537 => absurd cq537 (by omega)) (fun cq537 => ?_)
          refine g_iconst (q := 541) B43 dL_holds_540 rfl ?_
          refine g_goto (q := 559) B43 dL_holds_541 (by decide) ?_
          refine g_istore (q := 561) B43 dL_holds_559 rfl (by decide) (L' := [(5, .int (iI 1)), (14, .int (iI dk)), (0, .ref (yA Y 72)), (1, .int (iI (pG P 0))), (2, .int (iI (runsF (pG P)))), (3, .int (iI (pG P 4))), (4, .int (iI (pG P 1))), (6, .int (iI (pG P 0))), (7, .int (iI nb)), (8, .int (iI tot)), (9, .int (iI gg)), (10, .int (iI hv)), (11, .int (iI fw)), (12, .int (iI la)), (13, .int (iI k))]) rfl ?_
          refine g_iload (q := 563) B43 dL_holds_561 rfl 1 rfl ?_
          refine g_istore (q := 565) B43 dL_holds_563 rfl (by decide) (L' := [(12, .int (iI dk)), (5, .int (iI 1)), (14, .int (iI dk)), (0, .ref (yA Y 72)), (1, .int (iI (pG P 0))), (2, .int (iI (runsF (pG P)))), (3, .int (iI (pG P 4))), (4, .int (iI (pG P 1))), (6, .int (iI (pG P 0))), (7, .int (iI nb)), (8, .int (iI tot)), (9, .int (iI gg)), (10, .int (iI hv)), (11, .int (iI fw)), (13, .int (iI k))]) rfl ?_
          refine g_iinc (n := 14) (q := 568) B43 dL_holds_565 rfl rfl (by decide) (L' := [(13, .int (iI (k + 1))), (12, .int (iI dk)), (5, .int (iI 1)), (14, .int (iI dk)), (0, .ref (yA Y 72)), (1, .int (iI (pG P 0))), (2, .int (iI (runsF (pG P)))), (3, .int (iI (pG P 4))), (4, .int (iI (pG P 1))), (6, .int (iI (pG P 0))), (7, .int (iI nb)), (8, .int (iI tot)), (9, .int (iI gg)), (10, .int (iI hv)), (11, .int (iI fw))]) rfl ?_
          refine g_goto (q := 496) B43 dL_holds_568 (by decide) ?_
          refine g_sub [4, 5, 6, 7, 8, 2, 9, 10, 11, 12, 13, 14, 1, 0] rfl ?_
          exact ih (k + 1) dk (c + 1) S42 A42 T42 B43 (by omega) (by omega) (Or.inr ⟨by omega, by rw [show k + 1 - 1 = k by omega]; exact hdk.symm⟩) rdk (by omega) (by omega)
  have lp386 : ∀ (fu : Nat) (k : Int) (ga : Int) (ha : Int) (c : Nat) (S1 : SS), PK P S1 → kp S S1 → gB Y (xK X c) "NecklaceSistersLaw" cL_holds 16 (some .boolean) 50 → 0 ≤ k → k ≤ 4 → ga = sm (gapE (pG P)) k.toNat → ha = sm (hvE (pG P)) k.toNat → (0 ≤ ga ∧ ga ≤ 144 * k) → (0 ≤ ha ∧ ha ≤ 288 * k) → (c : Int) ≤ 300 + 2 * k → (4 - k).toNat < fu → gW Y (xK X c) S1 386 [(0, .ref (yA Y 72)), (1, .int (iI (pG P 0))), (2, .int (iI (runsF (pG P)))), (3, .int (iI (pG P 4))), (4, .int (iI (pG P 1))), (5, .int (iI 1)), (6, .int (iI (pG P 0))), (7, .int (iI nb)), (8, .int (iI tot)), (9, .int (iI ga)), (10, .int (iI ha)), (11, .int (iI k))] [] := by
    intro fu
    induction fu with
    | zero =>
      intro k ga ha c S1 _ _ _ _ _ _ _ _ _ _ h
      exact absurd h (Nat.not_lt_zero _)
    | succ fu ih =>
      intro k ga ha c S1 A1 T1 B1 k0 k1 hga hha rga rha hc hfu
      refine g_iload (q := 388) B1 dL_holds_386 rfl 11 rfl ?_
      refine g_iconst (q := 389) B1 dL_holds_388 rfl ?_
      refine g_icmp_ge (t := 479) (q := 392) B1 dL_holds_389 (by decide) rfl ⟨by omega, by omega⟩ ⟨by omega, by omega⟩ (fun cq389 => ?_) (fun cq389 => ?_)
      · have k4 : k = 4 := by omega
        have ega : ga = gg := by rw [hga, k4]; exact hgg
        have eha : ha = hv := by rw [hha, k4]; exact hhv
        rw [ega, eha]
        refine g_aload_n (q := 480) B1 dL_holds_479 rfl 0 rfl ?_
        refine g_bipush (q := 482) B1 dL_holds_480 rfl (by decide) ?_
        refine g_iconst (q := 483) B1 dL_holds_482 rfl ?_
        refine g_iconst (q := 484) B1 dL_holds_483 rfl ?_
        refine g_iconst (q := 485) B1 dL_holds_484 rfl ?_
        refine g_callN (q := 488) (m1 := 1) (c2 := c + 1) (As := [.ref (yA Y 72), .int (iI 16), .int (iI 0), .int (iI 0), .int (iI 0)]) (st := []) B1 dL_holds_485 rfl (k_fewest (Y := Y) (S := S1) hst A1 W 0 ⟨by omega, by omega⟩ 0 0 (x := fw) (hx := hfw)) eL_call w179 (by decide) rfl rfl (Nat.le_of_ble_eq_true rfl) (by omega) (Nat.le_trans (show c + 1 ≤ 400 by omega) E.2.1) (Nat.le_trans (show 6 * (c + 1) ≤ 6 * 400 by omega) E.2.2) (fun v S44 hS44 => ?_)
        obtain ⟨rfl, A44, K44⟩ := hS44
        have T44 := kp_t T1 K44
        have B45 := gB_K (c := c + 1) B1 (Nat.le_trans (show c + 1 ≤ 400 by omega) E.2.1) (Nat.le_trans (show 6 * (c + 1) ≤ 6 * 400 by omega) E.2.2)
        show gW Y (xK X (c + 1)) S44 488 [(0, .ref (yA Y 72)), (1, .int (iI (pG P 0))), (2, .int (iI (runsF (pG P)))), (3, .int (iI (pG P 4))), (4, .int (iI (pG P 1))), (5, .int (iI 1)), (6, .int (iI (pG P 0))), (7, .int (iI nb)), (8, .int (iI tot)), (9, .int (iI gg)), (10, .int (iI hv)), (11, .int (iI k))] [.int (iI fw)]
        refine g_istore (q := 490) B45 dL_holds_488 rfl (by decide) (L' := [(11, .int (iI fw)), (0, .ref (yA Y 72)), (1, .int (iI (pG P 0))), (2, .int (iI (runsF (pG P)))), (3, .int (iI (pG P 4))), (4, .int (iI (pG P 1))), (5, .int (iI 1)), (6, .int (iI (pG P 0))), (7, .int (iI nb)), (8, .int (iI tot)), (9, .int (iI gg)), (10, .int (iI hv))]) rfl ?_
        refine g_iconst (q := 491) B45 dL_holds_490 rfl ?_
        refine g_istore (q := 493) B45 dL_holds_491 rfl (by decide) (L' := [(12, .int (iI 0)), (11, .int (iI fw)), (0, .ref (yA Y 72)), (1, .int (iI (pG P 0))), (2, .int (iI (runsF (pG P)))), (3, .int (iI (pG P 4))), (4, .int (iI (pG P 1))), (5, .int (iI 1)), (6, .int (iI (pG P 0))), (7, .int (iI nb)), (8, .int (iI tot)), (9, .int (iI gg)), (10, .int (iI hv))]) rfl ?_
        refine g_iconst (q := 494) B45 dL_holds_493 rfl ?_
        refine g_istore (q := 496) B45 dL_holds_494 rfl (by decide) (L' := [(13, .int (iI 0)), (12, .int (iI 0)), (11, .int (iI fw)), (0, .ref (yA Y 72)), (1, .int (iI (pG P 0))), (2, .int (iI (runsF (pG P)))), (3, .int (iI (pG P 4))), (4, .int (iI (pG P 1))), (5, .int (iI 1)), (6, .int (iI (pG P 0))), (7, .int (iI nb)), (8, .int (iI tot)), (9, .int (iI gg)), (10, .int (iI hv))]) rfl ?_
        refine g_sub [3, 4, 5, 6, 7, 8, 9, 10, 11, 12, 13, 2, 1, 0] rfl ?_
        exact lp496 _ 0 0 (c + 1) S44 A44 T44 B45 (by omega) (by omega) (Or.inl ⟨rfl, rfl⟩) (by omega) (by omega) (Nat.lt_succ_self _)
      · refine g_iload (q := 394) B1 dL_holds_392 rfl 5 rfl ?_
        refine g_if_eq (t := 479) (q := 397) B1 dL_holds_394 (by decide) rfl ⟨by omega, by omega⟩ (fun cq394 => absurd cq394 (by decide)) (fun cq394 => ?_)
        obtain ⟨zz, hzz⟩ : ∃ z : Int, hasF (pG P) 0 k = z := ⟨_, rfl⟩
        obtain ⟨ww, hww⟩ : ∃ z : Int, hasF (pG P) 1 k = z := ⟨_, rfl⟩
        have rzz := hasF_in hw 0 k
        rw [hzz] at rzz
        have rww := hasF_in hw 1 k
        rw [hww] at rww
        have sg : sm (gapE (pG P)) (k + 1).toNat = ga + absI (zz - ww) := by
          rw [show (k + 1).toNat = k.toNat + 1 by omega, sm_s, ← hga, show ((k.toNat : Nat) : Int) = k by omega]
          unfold gapE
          rw [hzz, hww]
        have sh : sm (hvE (pG P)) (k + 1).toNat = ha + (zz + ww) := by
          rw [show (k + 1).toNat = k.toNat + 1 by omega, sm_s, ← hha, show ((k.toNat : Nat) : Int) = k by omega]
          unfold hvE
          rw [hzz, hww]
        refine g_aload_n (q := 398) B1 dL_holds_397 rfl 0 rfl ?_
        refine g_bipush (q := 400) B1 dL_holds_398 rfl (by decide) ?_
        refine g_iconst (q := 401) B1 dL_holds_400 rfl ?_
        refine g_iload (q := 403) B1 dL_holds_401 rfl 11 rfl ?_
        refine g_iconst (q := 404) B1 dL_holds_403 rfl ?_
        refine g_callN (q := 407) (m1 := 1) (c2 := c + 1) (As := [.ref (yA Y 72), .int (iI 6), .int (iI 0), .int (iI k), .int (iI 0)]) (st := []) B1 dL_holds_404 rfl (k_has (Y := Y) (S := S1) hst A1 W 0 ⟨by omega, by omega⟩ k ⟨by omega, by omega⟩ 0 (x := zz) (hx := (tv_0 ((if_pos (by decide)).trans (if_pos (by omega)))).trans hzz)) eL_call w179 (by decide) rfl rfl (Nat.le_of_ble_eq_true rfl) (by omega) (Nat.le_trans (show c + 1 ≤ 400 by omega) E.2.1) (Nat.le_trans (show 6 * (c + 1) ≤ 6 * 400 by omega) E.2.2) (fun v S46 hS46 => ?_)
        obtain ⟨rfl, A46, K46⟩ := hS46
        have T46 := kp_t T1 K46
        have B47 := gB_K (c := c + 1) B1 (Nat.le_trans (show c + 1 ≤ 400 by omega) E.2.1) (Nat.le_trans (show 6 * (c + 1) ≤ 6 * 400 by omega) E.2.2)
        show gW Y (xK X (c + 1)) S46 407 [(0, .ref (yA Y 72)), (1, .int (iI (pG P 0))), (2, .int (iI (runsF (pG P)))), (3, .int (iI (pG P 4))), (4, .int (iI (pG P 1))), (5, .int (iI 1)), (6, .int (iI (pG P 0))), (7, .int (iI nb)), (8, .int (iI tot)), (9, .int (iI ga)), (10, .int (iI ha)), (11, .int (iI k))] [.int (iI zz)]
        refine g_istore (q := 409) B47 dL_holds_407 rfl (by decide) (L' := [(12, .int (iI zz)), (0, .ref (yA Y 72)), (1, .int (iI (pG P 0))), (2, .int (iI (runsF (pG P)))), (3, .int (iI (pG P 4))), (4, .int (iI (pG P 1))), (5, .int (iI 1)), (6, .int (iI (pG P 0))), (7, .int (iI nb)), (8, .int (iI tot)), (9, .int (iI ga)), (10, .int (iI ha)), (11, .int (iI k))]) rfl ?_
        refine g_aload_n (q := 410) B47 dL_holds_409 rfl 1 rfl ?_
        refine g_bipush (q := 412) B47 dL_holds_410 rfl (by decide) ?_
        refine g_iconst (q := 413) B47 dL_holds_412 rfl ?_
        refine g_iload (q := 415) B47 dL_holds_413 rfl 12 rfl ?_
        refine g_iconst (q := 416) B47 dL_holds_415 rfl ?_
        refine g_callN (q := 419) (m1 := 1) (c2 := c + 2) (As := [.ref (yA Y 72), .int (iI 6), .int (iI 1), .int (iI k), .int (iI 0)]) (st := []) B47 dL_holds_416 rfl (k_has (Y := Y) (S := S46) hst A46 W 1 ⟨by omega, by omega⟩ k ⟨by omega, by omega⟩ 0 (x := ww) (hx := (tv_0 ((if_pos (by decide)).trans (if_pos (by omega)))).trans hww)) eL_call w179 (by decide) rfl rfl (Nat.le_of_ble_eq_true rfl) (by omega) (Nat.le_trans (show c + 2 ≤ 400 by omega) E.2.1) (Nat.le_trans (show 6 * (c + 2) ≤ 6 * 400 by omega) E.2.2) (fun v S48 hS48 => ?_)
        obtain ⟨rfl, A48, K48⟩ := hS48
        have T48 := kp_t T46 K48
        have B49 := gB_K (c := c + 2) B47 (Nat.le_trans (show c + 2 ≤ 400 by omega) E.2.1) (Nat.le_trans (show 6 * (c + 2) ≤ 6 * 400 by omega) E.2.2)
        show gW Y (xK X (c + 2)) S48 419 [(12, .int (iI zz)), (0, .ref (yA Y 72)), (1, .int (iI (pG P 0))), (2, .int (iI (runsF (pG P)))), (3, .int (iI (pG P 4))), (4, .int (iI (pG P 1))), (5, .int (iI 1)), (6, .int (iI (pG P 0))), (7, .int (iI nb)), (8, .int (iI tot)), (9, .int (iI ga)), (10, .int (iI ha)), (11, .int (iI k))] [.int (iI ww)]
        refine g_istore (q := 421) B49 dL_holds_419 rfl (by decide) (L' := [(13, .int (iI ww)), (12, .int (iI zz)), (0, .ref (yA Y 72)), (1, .int (iI (pG P 0))), (2, .int (iI (runsF (pG P)))), (3, .int (iI (pG P 4))), (4, .int (iI (pG P 1))), (5, .int (iI 1)), (6, .int (iI (pG P 0))), (7, .int (iI nb)), (8, .int (iI tot)), (9, .int (iI ga)), (10, .int (iI ha)), (11, .int (iI k))]) rfl ?_
        refine g_iload (q := 423) B49 dL_holds_421 rfl 11 rfl ?_
        refine g_iload (q := 425) B49 dL_holds_423 rfl 1 rfl ?_
        refine g_iload (q := 427) B49 dL_holds_425 rfl 0 rfl ?_
        refine g_icmp_ge (t := 438) (q := 430) B49 dL_holds_427 (by decide) rfl ⟨by omega, by omega⟩ ⟨by omega, by omega⟩ (fun cq427 => ?_) (fun cq427 => ?_)
        · have ab : absI (zz - ww) = zz - ww := if_pos (by omega)
          refine g_iload (q := 440) B49 dL_holds_438 rfl 1 rfl ?_
          refine g_iload (q := 442) B49 dL_holds_440 rfl 0 rfl ?_
          refine g_isub (q := 443) B49 dL_holds_442 rfl ?_
          refine g_iadd (q := 444) B49 dL_holds_443 rfl ?_
          refine g_istore (q := 446) B49 dL_holds_444 rfl (by decide) (L' := [(9, .int (iI (ga + (zz - ww)))), (13, .int (iI ww)), (12, .int (iI zz)), (0, .ref (yA Y 72)), (1, .int (iI (pG P 0))), (2, .int (iI (runsF (pG P)))), (3, .int (iI (pG P 4))), (4, .int (iI (pG P 1))), (5, .int (iI 1)), (6, .int (iI (pG P 0))), (7, .int (iI nb)), (8, .int (iI tot)), (10, .int (iI ha)), (11, .int (iI k))]) rfl ?_
          refine g_iload (q := 448) B49 dL_holds_446 rfl 12 rfl ?_
          refine g_iload (q := 450) B49 dL_holds_448 rfl 2 rfl ?_
          refine g_iload (q := 452) B49 dL_holds_450 rfl 1 rfl ?_
          refine g_iadd (q := 453) B49 dL_holds_452 rfl ?_
          refine g_iadd (q := 454) B49 dL_holds_453 rfl ?_
          refine g_istore (q := 456) B49 dL_holds_454 rfl (by decide) (L' := [(10, .int (iI (ha + (zz + ww)))), (9, .int (iI (ga + (zz - ww)))), (13, .int (iI ww)), (12, .int (iI zz)), (0, .ref (yA Y 72)), (1, .int (iI (pG P 0))), (2, .int (iI (runsF (pG P)))), (3, .int (iI (pG P 4))), (4, .int (iI (pG P 1))), (5, .int (iI 1)), (6, .int (iI (pG P 0))), (7, .int (iI nb)), (8, .int (iI tot)), (11, .int (iI k))]) rfl ?_
          refine g_iload (q := 458) B49 dL_holds_456 rfl 3 rfl ?_
          refine g_if_lt (t := 470) (q := 461) B49 dL_holds_458 (by decide) rfl ⟨by omega, by omega⟩ (fun cq458 => absurd cq458 (by omega)) (fun cq458 => ?_)
          refine g_iload (q := 463) B49 dL_holds_461 rfl 2 rfl ?_
          refine g_if_lt (t := 470) (q := 466) B49 dL_holds_463 (by decide) rfl ⟨by omega, by omega⟩ (fun cq463 => absurd cq463 (by omega)) (fun cq463 => ?_)
          refine g_iconst (q := 467) B49 dL_holds_466 rfl ?_
          refine g_goto (q := 471) B49 dL_holds_467 (by decide) ?_
          refine g_istore (q := 473) B49 dL_holds_471 rfl (by decide) (L' := [(5, .int (iI 1)), (10, .int (iI (ha + (zz + ww)))), (9, .int (iI (ga + (zz - ww)))), (13, .int (iI ww)), (12, .int (iI zz)), (0, .ref (yA Y 72)), (1, .int (iI (pG P 0))), (2, .int (iI (runsF (pG P)))), (3, .int (iI (pG P 4))), (4, .int (iI (pG P 1))), (6, .int (iI (pG P 0))), (7, .int (iI nb)), (8, .int (iI tot)), (11, .int (iI k))]) rfl ?_
          refine g_iinc (n := 13) (q := 476) B49 dL_holds_473 rfl rfl (by decide) (L' := [(11, .int (iI (k + 1))), (5, .int (iI 1)), (10, .int (iI (ha + (zz + ww)))), (9, .int (iI (ga + (zz - ww)))), (13, .int (iI ww)), (12, .int (iI zz)), (0, .ref (yA Y 72)), (1, .int (iI (pG P 0))), (2, .int (iI (runsF (pG P)))), (3, .int (iI (pG P 4))), (4, .int (iI (pG P 1))), (6, .int (iI (pG P 0))), (7, .int (iI nb)), (8, .int (iI tot))]) rfl ?_
          refine g_goto (q := 386) B49 dL_holds_476 (by decide) ?_
          refine g_sub [6, 7, 8, 9, 10, 1, 11, 12, 13, 3, 2, 0] rfl ?_
          exact ih (k + 1) (ga + (zz - ww)) (ha + (zz + ww)) (c + 2) S48 A48 T48 B49 (by omega) (by omega) (by rw [sg, ab]) sh.symm (by omega) (by omega) (by omega) (by omega)
        · have ab : absI (zz - ww) = ww - zz := by unfold absI; rw [if_neg (by omega)]; omega
          refine g_iload (q := 432) B49 dL_holds_430 rfl 0 rfl ?_
          refine g_iload (q := 434) B49 dL_holds_432 rfl 1 rfl ?_
          refine g_isub (q := 435) B49 dL_holds_434 rfl ?_
          refine g_goto (q := 443) B49 dL_holds_435 (by decide) ?_
          refine g_iadd (q := 444) B49 dL_holds_443 rfl ?_
          refine g_istore (q := 446) B49 dL_holds_444 rfl (by decide) (L' := [(9, .int (iI (ga + (ww - zz)))), (13, .int (iI ww)), (12, .int (iI zz)), (0, .ref (yA Y 72)), (1, .int (iI (pG P 0))), (2, .int (iI (runsF (pG P)))), (3, .int (iI (pG P 4))), (4, .int (iI (pG P 1))), (5, .int (iI 1)), (6, .int (iI (pG P 0))), (7, .int (iI nb)), (8, .int (iI tot)), (10, .int (iI ha)), (11, .int (iI k))]) rfl ?_
          refine g_iload (q := 448) B49 dL_holds_446 rfl 12 rfl ?_
          refine g_iload (q := 450) B49 dL_holds_448 rfl 2 rfl ?_
          refine g_iload (q := 452) B49 dL_holds_450 rfl 1 rfl ?_
          refine g_iadd (q := 453) B49 dL_holds_452 rfl ?_
          refine g_iadd (q := 454) B49 dL_holds_453 rfl ?_
          refine g_istore (q := 456) B49 dL_holds_454 rfl (by decide) (L' := [(10, .int (iI (ha + (zz + ww)))), (9, .int (iI (ga + (ww - zz)))), (13, .int (iI ww)), (12, .int (iI zz)), (0, .ref (yA Y 72)), (1, .int (iI (pG P 0))), (2, .int (iI (runsF (pG P)))), (3, .int (iI (pG P 4))), (4, .int (iI (pG P 1))), (5, .int (iI 1)), (6, .int (iI (pG P 0))), (7, .int (iI nb)), (8, .int (iI tot)), (11, .int (iI k))]) rfl ?_
          refine g_iload (q := 458) B49 dL_holds_456 rfl 3 rfl ?_
          refine g_if_lt (t := 470) (q := 461) B49 dL_holds_458 (by decide) rfl ⟨by omega, by omega⟩ (fun cq458 => absurd cq458 (by omega)) (fun cq458 => ?_)
          refine g_iload (q := 463) B49 dL_holds_461 rfl 2 rfl ?_
          refine g_if_lt (t := 470) (q := 466) B49 dL_holds_463 (by decide) rfl ⟨by omega, by omega⟩ (fun cq463 => absurd cq463 (by omega)) (fun cq463 => ?_)
          refine g_iconst (q := 467) B49 dL_holds_466 rfl ?_
          refine g_goto (q := 471) B49 dL_holds_467 (by decide) ?_
          refine g_istore (q := 473) B49 dL_holds_471 rfl (by decide) (L' := [(5, .int (iI 1)), (10, .int (iI (ha + (zz + ww)))), (9, .int (iI (ga + (ww - zz)))), (13, .int (iI ww)), (12, .int (iI zz)), (0, .ref (yA Y 72)), (1, .int (iI (pG P 0))), (2, .int (iI (runsF (pG P)))), (3, .int (iI (pG P 4))), (4, .int (iI (pG P 1))), (6, .int (iI (pG P 0))), (7, .int (iI nb)), (8, .int (iI tot)), (11, .int (iI k))]) rfl ?_
          refine g_iinc (n := 13) (q := 476) B49 dL_holds_473 rfl rfl (by decide) (L' := [(11, .int (iI (k + 1))), (5, .int (iI 1)), (10, .int (iI (ha + (zz + ww)))), (9, .int (iI (ga + (ww - zz)))), (13, .int (iI ww)), (12, .int (iI zz)), (0, .ref (yA Y 72)), (1, .int (iI (pG P 0))), (2, .int (iI (runsF (pG P)))), (3, .int (iI (pG P 4))), (4, .int (iI (pG P 1))), (6, .int (iI (pG P 0))), (7, .int (iI nb)), (8, .int (iI tot))]) rfl ?_
          refine g_goto (q := 386) B49 dL_holds_476 (by decide) ?_
          refine g_sub [6, 7, 8, 9, 10, 1, 11, 12, 13, 3, 2, 0] rfl ?_
          exact ih (k + 1) (ga + (ww - zz)) (ha + (zz + ww)) (c + 2) S48 A48 T48 B49 (by omega) (by omega) (by rw [sg, ab]) sh.symm (by omega) (by omega) (by omega) (by omega)
  have lp88 : ∀ (fu : Nat) (r : Int) (nx : Int) (nd : Int) (al : Int) (c : Nat) (S1 : SS), PK P S1 → kp S S1 → gB Y (xK X c) "NecklaceSistersLaw" cL_holds 16 (some .boolean) 50 → 0 ≤ r → r ≤ runsF (pG P) → nx = prS (pG P) (fun _ => 1) r → nd = prS (pG P) (nobE (pG P)) r → al = prS (pG P) (vaE (pG P)) r → (0 ≤ nx ∧ nx ≤ 16) → (c : Int) ≤ 10 + 4 * r + 7 * nx → (runsF (pG P) - r).toNat < fu → gW Y (xK X c) S1 88 [(0, .ref (yA Y 72)), (1, .int (iI (pG P 0))), (2, .int (iI (runsF (pG P)))), (3, .int (iI (pG P 4))), (4, .int (iI (pG P 1))), (5, .int (iI 1)), (6, .int (iI nx)), (7, .int (iI nd)), (8, .int (iI al)), (9, .int (iI r))] [] := by
    intro fu
    induction fu with
    | zero =>
      intro r nx nd al c S1 _ _ _ _ _ _ _ _ _ _ h
      exact absurd h (Nat.not_lt_zero _)
    | succ fu ih =>
      intro r nx nd al c S1 A1 T1 B1 r0 r1 hnx hnd hal rnx hc hfu
      refine g_iload (q := 90) B1 dL_holds_88 rfl 9 rfl ?_
      refine g_iload_n (q := 91) B1 dL_holds_90 rfl 2 rfl ?_
      refine g_icmp_ge (t := 377) (q := 94) B1 dL_holds_91 (by decide) rfl ⟨by omega, by omega⟩ ⟨by omega, by omega⟩ (fun cq91 => ?_) (fun cq91 => ?_)
      · have er : r = runsF (pG P) := by omega
        have enx : nx = pG P 0 := by
          rw [hnx, er, prS_n hw hn1, sm_const]
          omega
        have end_ : nd = nb := by
          rw [hnd, er, prS_n hw hn1]
          exact hnb
        have eal : al = tot := by
          rw [hal, er, prS_n hw hn1]
          exact htot
        rw [enx, end_, eal]
        refine g_iconst (q := 378) B1 dL_holds_377 rfl ?_
        refine g_istore (q := 380) B1 dL_holds_378 rfl (by decide) (L' := [(9, .int (iI 0)), (0, .ref (yA Y 72)), (1, .int (iI (pG P 0))), (2, .int (iI (runsF (pG P)))), (3, .int (iI (pG P 4))), (4, .int (iI (pG P 1))), (5, .int (iI 1)), (6, .int (iI (pG P 0))), (7, .int (iI nb)), (8, .int (iI tot))]) rfl ?_
        refine g_iconst (q := 381) B1 dL_holds_380 rfl ?_
        refine g_istore (q := 383) B1 dL_holds_381 rfl (by decide) (L' := [(10, .int (iI 0)), (9, .int (iI 0)), (0, .ref (yA Y 72)), (1, .int (iI (pG P 0))), (2, .int (iI (runsF (pG P)))), (3, .int (iI (pG P 4))), (4, .int (iI (pG P 1))), (5, .int (iI 1)), (6, .int (iI (pG P 0))), (7, .int (iI nb)), (8, .int (iI tot))]) rfl ?_
        refine g_iconst (q := 384) B1 dL_holds_383 rfl ?_
        refine g_istore (q := 386) B1 dL_holds_384 rfl (by decide) (L' := [(11, .int (iI 0)), (10, .int (iI 0)), (9, .int (iI 0)), (0, .ref (yA Y 72)), (1, .int (iI (pG P 0))), (2, .int (iI (runsF (pG P)))), (3, .int (iI (pG P 4))), (4, .int (iI (pG P 1))), (5, .int (iI 1)), (6, .int (iI (pG P 0))), (7, .int (iI nb)), (8, .int (iI tot))]) rfl ?_
        refine g_sub [3, 4, 5, 6, 7, 8, 9, 10, 11, 2, 1, 0] rfl ?_
        exact lp386 _ 0 0 0 (c) S1 A1 T1 B1 (by omega) (by omega) rfl rfl (by omega) (by omega) (by omega) (Nat.lt_succ_self _)
      · have rlt : r < runsF (pG P) := by omega
        obtain ⟨fp, hfp⟩ : ∃ z : Int, fpF (pG P) r = z := ⟨_, rfl⟩
        obtain ⟨mny, hmny⟩ : ∃ z : Int, plF (pG P) r = z := ⟨_, rfl⟩
        obtain ⟨ow, how⟩ : ∃ z : Int, pG P (38 + fpF (pG P) r) = z := ⟨_, rfl⟩
        have row := own_in hw r0 rlt
        rw [how] at row
        have rfp := fpF_in hw r0 rlt
        rw [hfp] at rfp
        have rfp1 := rfp.1
        have rfp2 := rfp.2.1
        have rmy := pl_pos hw r0 rlt
        rw [hmny] at rmy
        have rpl := plF_run hw r0 (show r ≤ runsF (pG P) - 1 by omega)
        rw [hfp, hmny] at rpl
        have rpl1 := rpl.1
        have exf : nx = fp := hnx.trans ((prS_fp hw r0 rlt).trans hfp)
        refine g_iload (q := 96) B1 dL_holds_94 rfl 5 rfl ?_
        refine g_if_eq (t := 377) (q := 99) B1 dL_holds_96 (by decide) rfl ⟨by omega, by omega⟩ (fun cq96 => absurd cq96 (by decide)) (fun cq96 => ?_)
        refine g_aload_n (q := 100) B1 dL_holds_99 rfl 0 rfl ?_
        refine g_iconst (q := 101) B1 dL_holds_100 rfl ?_
        refine g_iload (q := 103) B1 dL_holds_101 rfl 9 rfl ?_
        refine g_iconst (q := 104) B1 dL_holds_103 rfl ?_
        refine g_iconst (q := 105) B1 dL_holds_104 rfl ?_
        refine g_callN (q := 108) (m1 := 1) (c2 := c + 1) (As := [.ref (yA Y 72), .int (iI 5), .int (iI r), .int (iI 0), .int (iI 0)]) (st := []) B1 dL_holds_105 rfl (k_runOf (Y := Y) (S := S1) hst A1 W r ⟨by omega, by omega⟩ 0 ⟨by omega, by omega⟩ 0 (x := fp) (hx := (tv_0 ((if_pos ⟨by omega, by omega⟩).trans (if_pos (by decide)))).trans hfp)) eL_call w179 (by decide) rfl rfl (Nat.le_of_ble_eq_true rfl) (by omega) (Nat.le_trans (show c + 1 ≤ 400 by omega) E.2.1) (Nat.le_trans (show 6 * (c + 1) ≤ 6 * 400 by omega) E.2.2) (fun v S50 hS50 => ?_)
        obtain ⟨rfl, A50, K50⟩ := hS50
        have T50 := kp_t T1 K50
        have B51 := gB_K (c := c + 1) B1 (Nat.le_trans (show c + 1 ≤ 400 by omega) E.2.1) (Nat.le_trans (show 6 * (c + 1) ≤ 6 * 400 by omega) E.2.2)
        show gW Y (xK X (c + 1)) S50 108 [(0, .ref (yA Y 72)), (1, .int (iI (pG P 0))), (2, .int (iI (runsF (pG P)))), (3, .int (iI (pG P 4))), (4, .int (iI (pG P 1))), (5, .int (iI 1)), (6, .int (iI nx)), (7, .int (iI nd)), (8, .int (iI al)), (9, .int (iI r))] [.int (iI fp)]
        refine g_istore (q := 110) B51 dL_holds_108 rfl (by decide) (L' := [(10, .int (iI fp)), (0, .ref (yA Y 72)), (1, .int (iI (pG P 0))), (2, .int (iI (runsF (pG P)))), (3, .int (iI (pG P 4))), (4, .int (iI (pG P 1))), (5, .int (iI 1)), (6, .int (iI nx)), (7, .int (iI nd)), (8, .int (iI al)), (9, .int (iI r))]) rfl ?_
        refine g_aload_n (q := 111) B51 dL_holds_110 rfl 1 rfl ?_
        refine g_iconst (q := 112) B51 dL_holds_111 rfl ?_
        refine g_iload (q := 114) B51 dL_holds_112 rfl 10 rfl ?_
        refine g_iconst (q := 115) B51 dL_holds_114 rfl ?_
        refine g_iconst (q := 116) B51 dL_holds_115 rfl ?_
        refine g_callN (q := 119) (m1 := 1) (c2 := c + 2) (As := [.ref (yA Y 72), .int (iI 5), .int (iI r), .int (iI 1), .int (iI 0)]) (st := []) B51 dL_holds_116 rfl (k_runOf (Y := Y) (S := S50) hst A50 W r ⟨by omega, by omega⟩ 1 ⟨by omega, by omega⟩ 0 (x := mny) (hx := (tv_0 ((if_pos ⟨by omega, by omega⟩).trans (if_pos (by decide)))).trans hmny)) eL_call w179 (by decide) rfl rfl (Nat.le_of_ble_eq_true rfl) (by omega) (Nat.le_trans (show c + 2 ≤ 400 by omega) E.2.1) (Nat.le_trans (show 6 * (c + 2) ≤ 6 * 400 by omega) E.2.2) (fun v S52 hS52 => ?_)
        obtain ⟨rfl, A52, K52⟩ := hS52
        have T52 := kp_t T50 K52
        have B53 := gB_K (c := c + 2) B51 (Nat.le_trans (show c + 2 ≤ 400 by omega) E.2.1) (Nat.le_trans (show 6 * (c + 2) ≤ 6 * 400 by omega) E.2.2)
        show gW Y (xK X (c + 2)) S52 119 [(10, .int (iI fp)), (0, .ref (yA Y 72)), (1, .int (iI (pG P 0))), (2, .int (iI (runsF (pG P)))), (3, .int (iI (pG P 4))), (4, .int (iI (pG P 1))), (5, .int (iI 1)), (6, .int (iI nx)), (7, .int (iI nd)), (8, .int (iI al)), (9, .int (iI r))] [.int (iI mny)]
        refine g_istore (q := 121) B53 dL_holds_119 rfl (by decide) (L' := [(11, .int (iI mny)), (10, .int (iI fp)), (0, .ref (yA Y 72)), (1, .int (iI (pG P 0))), (2, .int (iI (runsF (pG P)))), (3, .int (iI (pG P 4))), (4, .int (iI (pG P 1))), (5, .int (iI 1)), (6, .int (iI nx)), (7, .int (iI nd)), (8, .int (iI al)), (9, .int (iI r))]) rfl ?_
        refine g_aload_n (q := 122) B53 dL_holds_121 rfl 2 rfl ?_
        refine g_iconst (q := 123) B53 dL_holds_122 rfl ?_
        refine g_iload (q := 125) B53 dL_holds_123 rfl 11 rfl ?_
        refine g_iconst (q := 126) B53 dL_holds_125 rfl ?_
        refine g_iconst (q := 127) B53 dL_holds_126 rfl ?_
        refine g_callN (q := 130) (m1 := 1) (c2 := c + 3) (As := [.ref (yA Y 72), .int (iI 5), .int (iI r), .int (iI 2), .int (iI 0)]) (st := []) B53 dL_holds_127 rfl (k_runOf (Y := Y) (S := S52) hst A52 W r ⟨by omega, by omega⟩ 2 ⟨by omega, by omega⟩ 0 (x := ow) (hx := (tv_0 ((if_pos ⟨by omega, by omega⟩).trans (if_pos (by decide)))).trans how)) eL_call w179 (by decide) rfl rfl (Nat.le_of_ble_eq_true rfl) (by omega) (Nat.le_trans (show c + 3 ≤ 400 by omega) E.2.1) (Nat.le_trans (show 6 * (c + 3) ≤ 6 * 400 by omega) E.2.2) (fun v S54 hS54 => ?_)
        obtain ⟨rfl, A54, K54⟩ := hS54
        have T54 := kp_t T52 K54
        have B55 := gB_K (c := c + 3) B53 (Nat.le_trans (show c + 3 ≤ 400 by omega) E.2.1) (Nat.le_trans (show 6 * (c + 3) ≤ 6 * 400 by omega) E.2.2)
        show gW Y (xK X (c + 3)) S54 130 [(11, .int (iI mny)), (10, .int (iI fp)), (0, .ref (yA Y 72)), (1, .int (iI (pG P 0))), (2, .int (iI (runsF (pG P)))), (3, .int (iI (pG P 4))), (4, .int (iI (pG P 1))), (5, .int (iI 1)), (6, .int (iI nx)), (7, .int (iI nd)), (8, .int (iI al)), (9, .int (iI r))] [.int (iI ow)]
        refine g_istore (q := 132) B55 dL_holds_130 rfl (by decide) (L' := [(12, .int (iI ow)), (11, .int (iI mny)), (10, .int (iI fp)), (0, .ref (yA Y 72)), (1, .int (iI (pG P 0))), (2, .int (iI (runsF (pG P)))), (3, .int (iI (pG P 4))), (4, .int (iI (pG P 1))), (5, .int (iI 1)), (6, .int (iI nx)), (7, .int (iI nd)), (8, .int (iI al)), (9, .int (iI r))]) rfl ?_
        refine g_iconst (q := 133) B55 dL_holds_132 rfl ?_
        refine g_istore (q := 135) B55 dL_holds_133 rfl (by decide) (L' := [(13, .int (iI 0)), (12, .int (iI ow)), (11, .int (iI mny)), (10, .int (iI fp)), (0, .ref (yA Y 72)), (1, .int (iI (pG P 0))), (2, .int (iI (runsF (pG P)))), (3, .int (iI (pG P 4))), (4, .int (iI (pG P 1))), (5, .int (iI 1)), (6, .int (iI nx)), (7, .int (iI nd)), (8, .int (iI al)), (9, .int (iI r))]) rfl ?_
        refine g_iload (q := 137) B55 dL_holds_135 rfl 3 rfl ?_
        refine g_iload (q := 139) B55 dL_holds_137 rfl 10 rfl ?_
        refine g_icmp_ne (t := 163) (q := 142) B55 dL_holds_139 (by decide) rfl ⟨by omega, by omega⟩ ⟨by omega, by omega⟩ (fun cq139 => absurd cq139 (by omega)) (fun cq139 => ?_)
        refine g_iload (q := 144) B55 dL_holds_142 rfl 2 rfl ?_
        refine g_if_le (t := 163) (q := 147) B55 dL_holds_144 (by decide) rfl ⟨by omega, by omega⟩ (fun cq144 => absurd cq144 (by omega)) (fun cq144 => ?_)
        refine g_iload (q := 149) B55 dL_holds_147 rfl 1 rfl ?_
        refine g_iconst (q := 150) B55 dL_holds_149 rfl ?_
        refine g_icmp_lt (t := 163) (q := 153) B55 dL_holds_150 (by decide) rfl ⟨by omega, by omega⟩ ⟨by omega, by omega⟩ (fun cq150 => absurd cq150 (by omega)) (fun cq150 => ?_)
        refine g_iload (q := 155) B55 dL_holds_153 rfl 1 rfl ?_
        refine g_iconst (q := 156) B55 dL_holds_155 rfl ?_
        refine g_icmp_ge (t := 163) (q := 159) B55 dL_holds_156 (by decide) rfl ⟨by omega, by omega⟩ ⟨by omega, by omega⟩ (fun cq156 => absurd cq156 (by omega)) (fun cq156 => ?_)
        refine g_iconst (q := 160) B55 dL_holds_159 rfl ?_
        refine g_goto (q := 164) B55 dL_holds_160 (by decide) ?_
        refine g_istore (q := 166) B55 dL_holds_164 rfl (by decide) (L' := [(5, .int (iI 1)), (13, .int (iI 0)), (12, .int (iI ow)), (11, .int (iI mny)), (10, .int (iI fp)), (0, .ref (yA Y 72)), (1, .int (iI (pG P 0))), (2, .int (iI (runsF (pG P)))), (3, .int (iI (pG P 4))), (4, .int (iI (pG P 1))), (6, .int (iI nx)), (7, .int (iI nd)), (8, .int (iI al)), (9, .int (iI r))]) rfl ?_
        have lp170 : ∀ (fv : Nat) (p su : Int) (d : Nat) (S2 : SS), PK P S2 → kp S S2 → gB Y (xK X d) "NecklaceSistersLaw" cL_holds 16 (some .boolean) 50 → fp ≤ p → p ≤ fp + mny → su = rvG (pG P) r p.toNat → (d : Int) ≤ c + 3 + 7 * (p - fp) → (fp + mny - p).toNat < fv → gW Y (xK X d) S2 170 [(0, .ref (yA Y 72)), (1, .int (iI (pG P 0))), (2, .int (iI (runsF (pG P)))), (3, .int (iI (pG P 4))), (4, .int (iI (pG P 1))), (5, .int (iI 1)), (6, .int (iI nx)), (7, .int (iI nd)), (8, .int (iI al)), (9, .int (iI r)), (10, .int (iI fp)), (11, .int (iI mny)), (12, .int (iI ow)), (13, .int (iI su)), (14, .int (iI p))] [] := by
          intro fv
          induction fv with
          | zero =>
            intro p su d S2 _ _ _ _ _ _ _ h
            exact absurd h (Nat.not_lt_zero _)
          | succ fv ih2 =>
            intro p su d S2 A2 T2 B2 p0 p1 hsu hd hfv
            have rsu := rvG_in hw r p.toNat (by omega)
            rw [← hsu] at rsu
            refine g_iload (q := 172) B2 dL_holds_170 rfl 14 rfl ?_
            refine g_iload (q := 174) B2 dL_holds_172 rfl 10 rfl ?_
            refine g_iload (q := 176) B2 dL_holds_174 rfl 11 rfl ?_
            refine g_iadd (q := 177) B2 dL_holds_176 rfl ?_
            refine g_icmp_ge (t := 314) (q := 180) B2 dL_holds_177 (by decide) rfl ⟨by omega, by omega⟩ ⟨by omega, by omega⟩ (fun cq177 => ?_) (fun cq177 => ?_)
            · have pe : p = fp + mny := by omega
              have hsr : rvF (pG P) r = su := by
                rw [hsu]
                exact (rvG_n hw r0 (show r ≤ runsF (pG P) - 1 by omega) (q := p.toNat) (by rw [hfp, hmny]; omega)).symm
              have sn1 : nx + mny = prS (pG P) (fun _ => 1) (r + 1) := by
                rw [prS_s, pl_is, hmny, hnx]
              have sn3 : al + su = prS (pG P) (vaE (pG P)) (r + 1) := by
                rw [prS_s, rv_is, hsr, hal]
              have sn2 : prS (pG P) (nobE (pG P)) (r + 1) = nd + (if ow = -1 then mny else 0) := by
                rw [prS_s, nb_is hw r0 rlt, hmny, how, hnd]
              refine g_iload (q := 316) B2 dL_holds_314 rfl 7 rfl ?_
              refine g_iload (q := 318) B2 dL_holds_316 rfl 12 rfl ?_
              refine g_iconst (q := 319) B2 dL_holds_318 rfl ?_
              refine g_icmp_ne (t := 327) (q := 322) B2 dL_holds_319 (by decide) rfl ⟨by omega, by omega⟩ ⟨by omega, by omega⟩ (fun cq319 => ?_) (fun cq319 => ?_)
              · refine g_iconst (q := 328) B2 dL_holds_327 rfl ?_
                refine g_iadd (q := 329) B2 dL_holds_328 rfl ?_
                refine g_istore (q := 331) B2 dL_holds_329 rfl (by decide) (L' := [(7, .int (iI (nd + 0))), (0, .ref (yA Y 72)), (1, .int (iI (pG P 0))), (2, .int (iI (runsF (pG P)))), (3, .int (iI (pG P 4))), (4, .int (iI (pG P 1))), (5, .int (iI 1)), (6, .int (iI nx)), (8, .int (iI al)), (9, .int (iI r)), (10, .int (iI fp)), (11, .int (iI mny)), (12, .int (iI ow)), (13, .int (iI su)), (14, .int (iI p))]) rfl ?_
                refine g_iload (q := 333) B2 dL_holds_331 rfl 8 rfl ?_
                refine g_iload (q := 335) B2 dL_holds_333 rfl 13 rfl ?_
                refine g_iadd (q := 336) B2 dL_holds_335 rfl ?_
                refine g_istore (q := 338) B2 dL_holds_336 rfl (by decide) (L' := [(8, .int (iI (al + su))), (7, .int (iI (nd + 0))), (0, .ref (yA Y 72)), (1, .int (iI (pG P 0))), (2, .int (iI (runsF (pG P)))), (3, .int (iI (pG P 4))), (4, .int (iI (pG P 1))), (5, .int (iI 1)), (6, .int (iI nx)), (9, .int (iI r)), (10, .int (iI fp)), (11, .int (iI mny)), (12, .int (iI ow)), (13, .int (iI su)), (14, .int (iI p))]) rfl ?_
                refine g_iload (q := 340) B2 dL_holds_338 rfl 7 rfl ?_
                refine g_if_eq (t := 361) (q := 343) B2 dL_holds_340 (by decide) rfl ⟨by omega, by omega⟩ (fun cq340 => absurd cq340 (by decide)) (fun cq340 => ?_)
                refine g_iload (q := 345) B2 dL_holds_343 rfl 13 rfl ?_
                refine g_aload_n (q := 346) B2 dL_holds_345 rfl 2 rfl ?_
                refine g_iconst (q := 347) B2 dL_holds_346 rfl ?_
                refine g_iload (q := 349) B2 dL_holds_347 rfl 9 rfl ?_
                refine g_iconst (q := 350) B2 dL_holds_349 rfl ?_
                refine g_iconst (q := 351) B2 dL_holds_350 rfl ?_
                refine g_callN (q := 354) (m1 := 1) (c2 := d + 1) (As := [.ref (yA Y 72), .int (iI 5), .int (iI r), .int (iI 3), .int (iI 0)]) (st := [.int (iI su)]) B2 dL_holds_351 rfl (k_runOf (Y := Y) (S := S2) hst A2 W r ⟨by omega, by omega⟩ 3 ⟨by omega, by omega⟩ 0 (x := su) (hx := (tv_0 ((if_pos ⟨by omega, by omega⟩).trans (if_pos (by decide)))).trans hsr)) eL_call w179 (by decide) rfl rfl (Nat.le_of_ble_eq_true rfl) (by omega) (Nat.le_trans (show d + 1 ≤ 400 by omega) E.2.1) (Nat.le_trans (show 6 * (d + 1) ≤ 6 * 400 by omega) E.2.2) (fun v S56 hS56 => ?_)
                obtain ⟨rfl, A56, K56⟩ := hS56
                have T56 := kp_t T2 K56
                have B57 := gB_K (c := d + 1) B2 (Nat.le_trans (show d + 1 ≤ 400 by omega) E.2.1) (Nat.le_trans (show 6 * (d + 1) ≤ 6 * 400 by omega) E.2.2)
                show gW Y (xK X (d + 1)) S56 354 [(8, .int (iI (al + su))), (7, .int (iI (nd + 0))), (0, .ref (yA Y 72)), (1, .int (iI (pG P 0))), (2, .int (iI (runsF (pG P)))), (3, .int (iI (pG P 4))), (4, .int (iI (pG P 1))), (5, .int (iI 1)), (6, .int (iI nx)), (9, .int (iI r)), (10, .int (iI fp)), (11, .int (iI mny)), (12, .int (iI ow)), (13, .int (iI su)), (14, .int (iI p))] [.int (iI su), .int (iI su)]
                refine g_icmp_ne (t := 361) (q := 357) B57 dL_holds_354 (by decide) rfl ⟨by omega, by omega⟩ ⟨by omega, by omega⟩ (fun cq354 => absurd cq354 (by omega)) (fun cq354 => ?_)
                refine g_iconst (q := 358) B57 dL_holds_357 rfl ?_
                refine g_goto (q := 362) B57 dL_holds_358 (by decide) ?_
                refine g_istore (q := 364) B57 dL_holds_362 rfl (by decide) (L' := [(5, .int (iI 1)), (8, .int (iI (al + su))), (7, .int (iI (nd + 0))), (0, .ref (yA Y 72)), (1, .int (iI (pG P 0))), (2, .int (iI (runsF (pG P)))), (3, .int (iI (pG P 4))), (4, .int (iI (pG P 1))), (6, .int (iI nx)), (9, .int (iI r)), (10, .int (iI fp)), (11, .int (iI mny)), (12, .int (iI ow)), (13, .int (iI su)), (14, .int (iI p))]) rfl ?_
                refine g_iload (q := 366) B57 dL_holds_364 rfl 8 rfl ?_
                refine g_iload (q := 368) B57 dL_holds_366 rfl 11 rfl ?_
                refine g_iadd (q := 369) B57 dL_holds_368 rfl ?_
                refine g_istore (q := 371) B57 dL_holds_369 rfl (by decide) (L' := [(6, .int (iI (nx + mny))), (5, .int (iI 1)), (8, .int (iI (al + su))), (7, .int (iI (nd + 0))), (0, .ref (yA Y 72)), (1, .int (iI (pG P 0))), (2, .int (iI (runsF (pG P)))), (3, .int (iI (pG P 4))), (4, .int (iI (pG P 1))), (9, .int (iI r)), (10, .int (iI fp)), (11, .int (iI mny)), (12, .int (iI ow)), (13, .int (iI su)), (14, .int (iI p))]) rfl ?_
                refine g_iinc (n := 9) (q := 374) B57 dL_holds_371 rfl rfl (by decide) (L' := [(9, .int (iI (r + 1))), (6, .int (iI (nx + mny))), (5, .int (iI 1)), (8, .int (iI (al + su))), (7, .int (iI (nd + 0))), (0, .ref (yA Y 72)), (1, .int (iI (pG P 0))), (2, .int (iI (runsF (pG P)))), (3, .int (iI (pG P 4))), (4, .int (iI (pG P 1))), (10, .int (iI fp)), (11, .int (iI mny)), (12, .int (iI ow)), (13, .int (iI su)), (14, .int (iI p))]) rfl ?_
                refine g_goto (q := 88) B57 dL_holds_374 (by decide) ?_
                refine g_sub [5, 6, 7, 8, 9, 2, 1, 4, 3, 0] rfl ?_
                exact ih (r + 1) (nx + mny) (nd + 0) (al + su) (d + 1) S56 A56 T56 B57 (by omega) (by omega) sn1 (by rw [sn2, if_neg (by omega)]) sn3 (by omega) (by omega) (by omega)
              · refine g_iload (q := 324) B2 dL_holds_322 rfl 11 rfl ?_
                refine g_goto (q := 328) B2 dL_holds_324 (by decide) ?_
                refine g_iadd (q := 329) B2 dL_holds_328 rfl ?_
                refine g_istore (q := 331) B2 dL_holds_329 rfl (by decide) (L' := [(7, .int (iI (nd + mny))), (0, .ref (yA Y 72)), (1, .int (iI (pG P 0))), (2, .int (iI (runsF (pG P)))), (3, .int (iI (pG P 4))), (4, .int (iI (pG P 1))), (5, .int (iI 1)), (6, .int (iI nx)), (8, .int (iI al)), (9, .int (iI r)), (10, .int (iI fp)), (11, .int (iI mny)), (12, .int (iI ow)), (13, .int (iI su)), (14, .int (iI p))]) rfl ?_
                refine g_iload (q := 333) B2 dL_holds_331 rfl 8 rfl ?_
                refine g_iload (q := 335) B2 dL_holds_333 rfl 13 rfl ?_
                refine g_iadd (q := 336) B2 dL_holds_335 rfl ?_
                refine g_istore (q := 338) B2 dL_holds_336 rfl (by decide) (L' := [(8, .int (iI (al + su))), (7, .int (iI (nd + mny))), (0, .ref (yA Y 72)), (1, .int (iI (pG P 0))), (2, .int (iI (runsF (pG P)))), (3, .int (iI (pG P 4))), (4, .int (iI (pG P 1))), (5, .int (iI 1)), (6, .int (iI nx)), (9, .int (iI r)), (10, .int (iI fp)), (11, .int (iI mny)), (12, .int (iI ow)), (13, .int (iI su)), (14, .int (iI p))]) rfl ?_
                refine g_iload (q := 340) B2 dL_holds_338 rfl 7 rfl ?_
                refine g_if_eq (t := 361) (q := 343) B2 dL_holds_340 (by decide) rfl ⟨by omega, by omega⟩ (fun cq340 => absurd cq340 (by decide)) (fun cq340 => ?_)
                refine g_iload (q := 345) B2 dL_holds_343 rfl 13 rfl ?_
                refine g_aload_n (q := 346) B2 dL_holds_345 rfl 2 rfl ?_
                refine g_iconst (q := 347) B2 dL_holds_346 rfl ?_
                refine g_iload (q := 349) B2 dL_holds_347 rfl 9 rfl ?_
                refine g_iconst (q := 350) B2 dL_holds_349 rfl ?_
                refine g_iconst (q := 351) B2 dL_holds_350 rfl ?_
                refine g_callN (q := 354) (m1 := 1) (c2 := d + 1) (As := [.ref (yA Y 72), .int (iI 5), .int (iI r), .int (iI 3), .int (iI 0)]) (st := [.int (iI su)]) B2 dL_holds_351 rfl (k_runOf (Y := Y) (S := S2) hst A2 W r ⟨by omega, by omega⟩ 3 ⟨by omega, by omega⟩ 0 (x := su) (hx := (tv_0 ((if_pos ⟨by omega, by omega⟩).trans (if_pos (by decide)))).trans hsr)) eL_call w179 (by decide) rfl rfl (Nat.le_of_ble_eq_true rfl) (by omega) (Nat.le_trans (show d + 1 ≤ 400 by omega) E.2.1) (Nat.le_trans (show 6 * (d + 1) ≤ 6 * 400 by omega) E.2.2) (fun v S58 hS58 => ?_)
                obtain ⟨rfl, A58, K58⟩ := hS58
                have T58 := kp_t T2 K58
                have B59 := gB_K (c := d + 1) B2 (Nat.le_trans (show d + 1 ≤ 400 by omega) E.2.1) (Nat.le_trans (show 6 * (d + 1) ≤ 6 * 400 by omega) E.2.2)
                show gW Y (xK X (d + 1)) S58 354 [(8, .int (iI (al + su))), (7, .int (iI (nd + mny))), (0, .ref (yA Y 72)), (1, .int (iI (pG P 0))), (2, .int (iI (runsF (pG P)))), (3, .int (iI (pG P 4))), (4, .int (iI (pG P 1))), (5, .int (iI 1)), (6, .int (iI nx)), (9, .int (iI r)), (10, .int (iI fp)), (11, .int (iI mny)), (12, .int (iI ow)), (13, .int (iI su)), (14, .int (iI p))] [.int (iI su), .int (iI su)]
                refine g_icmp_ne (t := 361) (q := 357) B59 dL_holds_354 (by decide) rfl ⟨by omega, by omega⟩ ⟨by omega, by omega⟩ (fun cq354 => absurd cq354 (by omega)) (fun cq354 => ?_)
                refine g_iconst (q := 358) B59 dL_holds_357 rfl ?_
                refine g_goto (q := 362) B59 dL_holds_358 (by decide) ?_
                refine g_istore (q := 364) B59 dL_holds_362 rfl (by decide) (L' := [(5, .int (iI 1)), (8, .int (iI (al + su))), (7, .int (iI (nd + mny))), (0, .ref (yA Y 72)), (1, .int (iI (pG P 0))), (2, .int (iI (runsF (pG P)))), (3, .int (iI (pG P 4))), (4, .int (iI (pG P 1))), (6, .int (iI nx)), (9, .int (iI r)), (10, .int (iI fp)), (11, .int (iI mny)), (12, .int (iI ow)), (13, .int (iI su)), (14, .int (iI p))]) rfl ?_
                refine g_iload (q := 366) B59 dL_holds_364 rfl 8 rfl ?_
                refine g_iload (q := 368) B59 dL_holds_366 rfl 11 rfl ?_
                refine g_iadd (q := 369) B59 dL_holds_368 rfl ?_
                refine g_istore (q := 371) B59 dL_holds_369 rfl (by decide) (L' := [(6, .int (iI (nx + mny))), (5, .int (iI 1)), (8, .int (iI (al + su))), (7, .int (iI (nd + mny))), (0, .ref (yA Y 72)), (1, .int (iI (pG P 0))), (2, .int (iI (runsF (pG P)))), (3, .int (iI (pG P 4))), (4, .int (iI (pG P 1))), (9, .int (iI r)), (10, .int (iI fp)), (11, .int (iI mny)), (12, .int (iI ow)), (13, .int (iI su)), (14, .int (iI p))]) rfl ?_
                refine g_iinc (n := 9) (q := 374) B59 dL_holds_371 rfl rfl (by decide) (L' := [(9, .int (iI (r + 1))), (6, .int (iI (nx + mny))), (5, .int (iI 1)), (8, .int (iI (al + su))), (7, .int (iI (nd + mny))), (0, .ref (yA Y 72)), (1, .int (iI (pG P 0))), (2, .int (iI (runsF (pG P)))), (3, .int (iI (pG P 4))), (4, .int (iI (pG P 1))), (10, .int (iI fp)), (11, .int (iI mny)), (12, .int (iI ow)), (13, .int (iI su)), (14, .int (iI p))]) rfl ?_
                refine g_goto (q := 88) B59 dL_holds_374 (by decide) ?_
                refine g_sub [5, 6, 7, 8, 9, 2, 1, 4, 3, 0] rfl ?_
                exact ih (r + 1) (nx + mny) (nd + mny) (al + su) (d + 1) S58 A58 T58 B59 (by omega) (by omega) sn1 (by rw [sn2, if_pos (by omega)]) sn3 (by omega) (by omega) (by omega)
            · have hpr : runF (pG P) p = r := (rpl.2 p (by omega) (by omega)).mpr ⟨by omega, by omega⟩
              obtain ⟨jj, hjj⟩ : ∃ z : Int, jatF (pG P) p = z := ⟨_, rfl⟩
              have rjj := jatF_in hw (p := p) (by omega) (by omega)
              rw [hjj] at rjj
              have ejj : (pG P 1 + p) % pG P 0 = jj := hjj
              have mjj := md_in (pG P 1 + p) hn1
              obtain ⟨wv, hwv⟩ : ∃ z : Int, pG P (22 + jj) = z := ⟨_, rfl⟩
              have rwv := (hw.2.2.2.2.2.2.1 jj rjj.1 rjj.2).2
              rw [hwv] at rwv
              obtain ⟨bt, hbt⟩ : ∃ z : Int, (if ((pG P) 5).toNat.testBit p.toNat = true then (1 : Int) else 0) = z := ⟨_, rfl⟩
              have rbt : 0 ≤ bt ∧ bt ≤ 1 := by rw [← hbt]; split <;> omega
              have bru := bit_run hw r0 rlt (p := p) (by rw [hfp]; omega) (by rw [hfp, hmny]; omega)
              rw [hfp] at bru
              have bt1 : p ≠ fp → bt = 0 := fun z => by rw [← hbt, bru.1 z]; rfl
              have bt2 : p = fp → p ≤ 0 → bt = 0 := fun z z2 => by rw [← hbt, bru.2.1 z z2]; rfl
              have bt3 : p = fp → 0 < p → bt = 1 := fun z z2 => by rw [← hbt, bru.2.2 z z2]; rfl
              have hs1 := rvG_s hw r0 (show r ≤ runsF (pG P) - 1 by omega) (q := p.toNat) (by rw [hfp]; omega) (by rw [hfp, hmny]; omega)
              rw [show ((p.toNat : Nat) : Int) = p by omega, hjj] at hs1
              refine g_iload (q := 182) B2 dL_holds_180 rfl 5 rfl ?_
              refine g_if_eq (t := 314) (q := 185) B2 dL_holds_182 (by decide) rfl ⟨by omega, by omega⟩ (fun cq182 => absurd cq182 (by decide)) (fun cq182 => ?_)
              refine g_aload_n (q := 186) B2 dL_holds_185 rfl 0 rfl ?_
              refine g_iconst (q := 187) B2 dL_holds_186 rfl ?_
              refine g_iload (q := 189) B2 dL_holds_187 rfl 14 rfl ?_
              refine g_iconst (q := 190) B2 dL_holds_189 rfl ?_
              refine g_iconst (q := 191) B2 dL_holds_190 rfl ?_
              refine g_callN (q := 194) (m1 := 1) (c2 := d + 1) (As := [.ref (yA Y 72), .int (iI 4), .int (iI p), .int (iI 0), .int (iI 0)]) (st := []) B2 dL_holds_191 rfl (k_placeOf (Y := Y) (S := S2) hst A2 W p ⟨by omega, by omega⟩ 0 ⟨by omega, by omega⟩ 0 (x := jj) (hx := (tv_0 ((if_pos ⟨by omega, by omega⟩).trans (if_pos (by decide)))).trans hjj)) eL_call w179 (by decide) rfl rfl (Nat.le_of_ble_eq_true rfl) (by omega) (Nat.le_trans (show d + 1 ≤ 400 by omega) E.2.1) (Nat.le_trans (show 6 * (d + 1) ≤ 6 * 400 by omega) E.2.2) (fun v S60 hS60 => ?_)
              obtain ⟨rfl, A60, K60⟩ := hS60
              have T60 := kp_t T2 K60
              have B61 := gB_K (c := d + 1) B2 (Nat.le_trans (show d + 1 ≤ 400 by omega) E.2.1) (Nat.le_trans (show 6 * (d + 1) ≤ 6 * 400 by omega) E.2.2)
              show gW Y (xK X (d + 1)) S60 194 [(0, .ref (yA Y 72)), (1, .int (iI (pG P 0))), (2, .int (iI (runsF (pG P)))), (3, .int (iI (pG P 4))), (4, .int (iI (pG P 1))), (5, .int (iI 1)), (6, .int (iI nx)), (7, .int (iI nd)), (8, .int (iI al)), (9, .int (iI r)), (10, .int (iI fp)), (11, .int (iI mny)), (12, .int (iI ow)), (13, .int (iI su)), (14, .int (iI p))] [.int (iI jj)]
              refine g_istore (q := 196) B61 dL_holds_194 rfl (by decide) (L' := [(15, .int (iI jj)), (0, .ref (yA Y 72)), (1, .int (iI (pG P 0))), (2, .int (iI (runsF (pG P)))), (3, .int (iI (pG P 4))), (4, .int (iI (pG P 1))), (5, .int (iI 1)), (6, .int (iI nx)), (7, .int (iI nd)), (8, .int (iI al)), (9, .int (iI r)), (10, .int (iI fp)), (11, .int (iI mny)), (12, .int (iI ow)), (13, .int (iI su)), (14, .int (iI p))]) rfl ?_
              refine g_iload (q := 198) B61 dL_holds_196 rfl 14 rfl ?_
              refine g_iload_n (q := 199) B61 dL_holds_198 rfl 4 rfl ?_
              refine g_if_ne (t := 206) (q := 202) B61 dL_holds_199 (by decide) rfl ⟨by omega, by omega⟩ (fun cq199 => ?_) (fun cq199 => ?_)
              · have hv1 : valF (pG P) jj = wv := by unfold valF; rw [if_neg (by omega)]; exact hwv
                refine g_aload_n (q := 207) B61 dL_holds_206 rfl 1 rfl ?_
                refine g_iconst (q := 208) B61 dL_holds_207 rfl ?_
                refine g_iload (q := 210) B61 dL_holds_208 rfl 0 rfl ?_
                refine g_iconst (q := 211) B61 dL_holds_210 rfl ?_
                refine g_iconst (q := 212) B61 dL_holds_211 rfl ?_
                refine g_callN (q := 215) (m1 := 1) (c2 := d + 2) (As := [.ref (yA Y 72), .int (iI 3), .int (iI jj), .int (iI 1), .int (iI 0)]) (st := [.int (iI su)]) B61 dL_holds_212 rfl (k_jewelOf (Y := Y) (S := S60) hst A60 W jj ⟨by omega, by omega⟩ 1 ⟨by omega, by omega⟩ 0 (x := wv) (hx := (tv_0 ((if_pos ⟨by omega, by omega⟩).trans (if_pos (by decide)))).trans hwv)) eL_call w179 (by decide) rfl rfl (Nat.le_of_ble_eq_true rfl) (by omega) (Nat.le_trans (show d + 2 ≤ 400 by omega) E.2.1) (Nat.le_trans (show 6 * (d + 2) ≤ 6 * 400 by omega) E.2.2) (fun v S62 hS62 => ?_)
                obtain ⟨rfl, A62, K62⟩ := hS62
                have T62 := kp_t T60 K62
                have B63 := gB_K (c := d + 2) B61 (Nat.le_trans (show d + 2 ≤ 400 by omega) E.2.1) (Nat.le_trans (show 6 * (d + 2) ≤ 6 * 400 by omega) E.2.2)
                show gW Y (xK X (d + 2)) S62 215 [(15, .int (iI jj)), (0, .ref (yA Y 72)), (1, .int (iI (pG P 0))), (2, .int (iI (runsF (pG P)))), (3, .int (iI (pG P 4))), (4, .int (iI (pG P 1))), (5, .int (iI 1)), (6, .int (iI nx)), (7, .int (iI nd)), (8, .int (iI al)), (9, .int (iI r)), (10, .int (iI fp)), (11, .int (iI mny)), (12, .int (iI ow)), (13, .int (iI su)), (14, .int (iI p))] [.int (iI wv), .int (iI su)]
                refine g_iadd (q := 216) B63 dL_holds_215 rfl ?_
                refine g_istore (q := 218) B63 dL_holds_216 rfl (by decide) (L' := [(13, .int (iI (su + wv))), (15, .int (iI jj)), (0, .ref (yA Y 72)), (1, .int (iI (pG P 0))), (2, .int (iI (runsF (pG P)))), (3, .int (iI (pG P 4))), (4, .int (iI (pG P 1))), (5, .int (iI 1)), (6, .int (iI nx)), (7, .int (iI nd)), (8, .int (iI al)), (9, .int (iI r)), (10, .int (iI fp)), (11, .int (iI mny)), (12, .int (iI ow)), (14, .int (iI p))]) rfl ?_
                refine g_iload (q := 220) B63 dL_holds_218 rfl 1 rfl ?_
                refine g_iload (q := 222) B63 dL_holds_220 rfl 6 rfl ?_
                refine g_iload (q := 224) B63 dL_holds_222 rfl 15 rfl ?_
                refine g_iadd (q := 225) B63 dL_holds_224 rfl ?_
                refine g_iload_n (q := 226) B63 dL_holds_225 rfl 3 rfl ?_
                refine g_irem (q := 227) B63 dL_holds_226 rfl (by omega) (by omega) (by omega) (by omega) ?_
                refine g_icmp_ne (t := 305) (q := 230) B63 dL_holds_227 (by decide) rfl ⟨by omega, by omega⟩ ⟨by omega, by omega⟩ (fun cq227 => absurd cq227 (by omega)) (fun cq227 => ?_)
                refine g_aload_n (q := 231) B63 dL_holds_230 rfl 2 rfl ?_
                refine g_iconst (q := 232) B63 dL_holds_231 rfl ?_
                refine g_iload (q := 234) B63 dL_holds_232 rfl 1 rfl ?_
                refine g_iconst (q := 235) B63 dL_holds_234 rfl ?_
                refine g_iconst (q := 236) B63 dL_holds_235 rfl ?_
                refine g_callN (q := 239) (m1 := 1) (c2 := d + 3) (As := [.ref (yA Y 72), .int (iI 3), .int (iI jj), .int (iI 2), .int (iI 0)]) (st := []) B63 dL_holds_236 rfl (k_jewelOf (Y := Y) (S := S62) hst A62 W jj ⟨by omega, by omega⟩ 2 ⟨by omega, by omega⟩ 0 (x := p) (hx := (tv_0 ((if_pos ⟨by omega, by omega⟩).trans (if_pos (by decide)))).trans (by rw [← hjj]; exact jw_place hw (by omega) (by omega)))) eL_call w179 (by decide) rfl rfl (Nat.le_of_ble_eq_true rfl) (by omega) (Nat.le_trans (show d + 3 ≤ 400 by omega) E.2.1) (Nat.le_trans (show 6 * (d + 3) ≤ 6 * 400 by omega) E.2.2) (fun v S64 hS64 => ?_)
                obtain ⟨rfl, A64, K64⟩ := hS64
                have T64 := kp_t T62 K64
                have B65 := gB_K (c := d + 3) B63 (Nat.le_trans (show d + 3 ≤ 400 by omega) E.2.1) (Nat.le_trans (show 6 * (d + 3) ≤ 6 * 400 by omega) E.2.2)
                show gW Y (xK X (d + 3)) S64 239 [(13, .int (iI (su + wv))), (15, .int (iI jj)), (0, .ref (yA Y 72)), (1, .int (iI (pG P 0))), (2, .int (iI (runsF (pG P)))), (3, .int (iI (pG P 4))), (4, .int (iI (pG P 1))), (5, .int (iI 1)), (6, .int (iI nx)), (7, .int (iI nd)), (8, .int (iI al)), (9, .int (iI r)), (10, .int (iI fp)), (11, .int (iI mny)), (12, .int (iI ow)), (14, .int (iI p))] [.int (iI p)]
                refine g_iload (q := 241) B65 dL_holds_239 rfl 15 rfl ?_
                refine g_icmp_ne (t := 305) (q := 244) B65 dL_holds_241 (by decide) rfl ⟨by omega, by omega⟩ ⟨by omega, by omega⟩ (fun cq241 => absurd cq241 (by omega)) (fun cq241 => ?_)
                refine g_aload_n (q := 245) B65 dL_holds_244 rfl 2 rfl ?_
                refine g_iconst (q := 246) B65 dL_holds_245 rfl ?_
                refine g_iload (q := 248) B65 dL_holds_246 rfl 15 rfl ?_
                refine g_iconst (q := 249) B65 dL_holds_248 rfl ?_
                refine g_iconst (q := 250) B65 dL_holds_249 rfl ?_
                refine g_callN (q := 253) (m1 := 1) (c2 := d + 4) (As := [.ref (yA Y 72), .int (iI 4), .int (iI p), .int (iI 1), .int (iI 0)]) (st := []) B65 dL_holds_250 rfl (k_placeOf (Y := Y) (S := S64) hst A64 W p ⟨by omega, by omega⟩ 1 ⟨by omega, by omega⟩ 0 (x := ow) (hx := (tv_0 ((if_pos ⟨by omega, by omega⟩).trans (if_pos (by decide)))).trans ((own_runI hw (by omega) (by omega) hpr).trans how))) eL_call w179 (by decide) rfl rfl (Nat.le_of_ble_eq_true rfl) (by omega) (Nat.le_trans (show d + 4 ≤ 400 by omega) E.2.1) (Nat.le_trans (show 6 * (d + 4) ≤ 6 * 400 by omega) E.2.2) (fun v S66 hS66 => ?_)
                obtain ⟨rfl, A66, K66⟩ := hS66
                have T66 := kp_t T64 K66
                have B67 := gB_K (c := d + 4) B65 (Nat.le_trans (show d + 4 ≤ 400 by omega) E.2.1) (Nat.le_trans (show 6 * (d + 4) ≤ 6 * 400 by omega) E.2.2)
                show gW Y (xK X (d + 4)) S66 253 [(13, .int (iI (su + wv))), (15, .int (iI jj)), (0, .ref (yA Y 72)), (1, .int (iI (pG P 0))), (2, .int (iI (runsF (pG P)))), (3, .int (iI (pG P 4))), (4, .int (iI (pG P 1))), (5, .int (iI 1)), (6, .int (iI nx)), (7, .int (iI nd)), (8, .int (iI al)), (9, .int (iI r)), (10, .int (iI fp)), (11, .int (iI mny)), (12, .int (iI ow)), (14, .int (iI p))] [.int (iI ow)]
                refine g_iload (q := 255) B67 dL_holds_253 rfl 14 rfl ?_
                refine g_icmp_ne (t := 305) (q := 258) B67 dL_holds_255 (by decide) rfl ⟨by omega, by omega⟩ ⟨by omega, by omega⟩ (fun cq255 => absurd cq255 (by omega)) (fun cq255 => ?_)
                refine g_aload_n (q := 259) B67 dL_holds_258 rfl 2 rfl ?_
                refine g_iconst (q := 260) B67 dL_holds_259 rfl ?_
                refine g_iload (q := 262) B67 dL_holds_260 rfl 15 rfl ?_
                refine g_iconst (q := 263) B67 dL_holds_262 rfl ?_
                refine g_iconst (q := 264) B67 dL_holds_263 rfl ?_
                refine g_callN (q := 267) (m1 := 1) (c2 := d + 5) (As := [.ref (yA Y 72), .int (iI 4), .int (iI p), .int (iI 2), .int (iI 0)]) (st := []) B67 dL_holds_264 rfl (k_placeOf (Y := Y) (S := S66) hst A66 W p ⟨by omega, by omega⟩ 2 ⟨by omega, by omega⟩ 0 (x := r) (hx := (tv_0 ((if_pos ⟨by omega, by omega⟩).trans (if_pos (by decide)))).trans hpr)) eL_call w179 (by decide) rfl rfl (Nat.le_of_ble_eq_true rfl) (by omega) (Nat.le_trans (show d + 5 ≤ 400 by omega) E.2.1) (Nat.le_trans (show 6 * (d + 5) ≤ 6 * 400 by omega) E.2.2) (fun v S68 hS68 => ?_)
                obtain ⟨rfl, A68, K68⟩ := hS68
                have T68 := kp_t T66 K68
                have B69 := gB_K (c := d + 5) B67 (Nat.le_trans (show d + 5 ≤ 400 by omega) E.2.1) (Nat.le_trans (show 6 * (d + 5) ≤ 6 * 400 by omega) E.2.2)
                show gW Y (xK X (d + 5)) S68 267 [(13, .int (iI (su + wv))), (15, .int (iI jj)), (0, .ref (yA Y 72)), (1, .int (iI (pG P 0))), (2, .int (iI (runsF (pG P)))), (3, .int (iI (pG P 4))), (4, .int (iI (pG P 1))), (5, .int (iI 1)), (6, .int (iI nx)), (7, .int (iI nd)), (8, .int (iI al)), (9, .int (iI r)), (10, .int (iI fp)), (11, .int (iI mny)), (12, .int (iI ow)), (14, .int (iI p))] [.int (iI r)]
                refine g_iload (q := 269) B69 dL_holds_267 rfl 11 rfl ?_
                refine g_icmp_ne (t := 305) (q := 272) B69 dL_holds_269 (by decide) rfl ⟨by omega, by omega⟩ ⟨by omega, by omega⟩ (fun cq269 => absurd cq269 (by omega)) (fun cq269 => ?_)
                refine g_aload_n (q := 273) B69 dL_holds_272 rfl 2 rfl ?_
                refine g_iconst (q := 274) B69 dL_holds_273 rfl ?_
                refine g_iload (q := 276) B69 dL_holds_274 rfl 15 rfl ?_
                refine g_iconst (q := 277) B69 dL_holds_276 rfl ?_
                refine g_iconst (q := 278) B69 dL_holds_277 rfl ?_
                refine g_callN (q := 281) (m1 := 1) (c2 := d + 6) (As := [.ref (yA Y 72), .int (iI 4), .int (iI p), .int (iI 3), .int (iI 0)]) (st := []) B69 dL_holds_278 rfl (k_placeOf (Y := Y) (S := S68) hst A68 W p ⟨by omega, by omega⟩ 3 ⟨by omega, by omega⟩ 0 (x := bt) (hx := (tv_0 ((if_pos ⟨by omega, by omega⟩).trans (if_pos (by decide)))).trans hbt)) eL_call w179 (by decide) rfl rfl (Nat.le_of_ble_eq_true rfl) (by omega) (Nat.le_trans (show d + 6 ≤ 400 by omega) E.2.1) (Nat.le_trans (show 6 * (d + 6) ≤ 6 * 400 by omega) E.2.2) (fun v S70 hS70 => ?_)
                obtain ⟨rfl, A70, K70⟩ := hS70
                have T70 := kp_t T68 K70
                have B71 := gB_K (c := d + 6) B69 (Nat.le_trans (show d + 6 ≤ 400 by omega) E.2.1) (Nat.le_trans (show 6 * (d + 6) ≤ 6 * 400 by omega) E.2.2)
                show gW Y (xK X (d + 6)) S70 281 [(13, .int (iI (su + wv))), (15, .int (iI jj)), (0, .ref (yA Y 72)), (1, .int (iI (pG P 0))), (2, .int (iI (runsF (pG P)))), (3, .int (iI (pG P 4))), (4, .int (iI (pG P 1))), (5, .int (iI 1)), (6, .int (iI nx)), (7, .int (iI nd)), (8, .int (iI al)), (9, .int (iI r)), (10, .int (iI fp)), (11, .int (iI mny)), (12, .int (iI ow)), (14, .int (iI p))] [.int (iI bt)]
                refine g_iload (q := 283) B71 dL_holds_281 rfl 15 rfl ?_
                refine g_iload (q := 285) B71 dL_holds_283 rfl 12 rfl ?_
                refine g_icmp_ne (t := 297) (q := 288) B71 dL_holds_285 (by decide) rfl ⟨by omega, by omega⟩ ⟨by omega, by omega⟩ (fun cq285 => ?_) (fun cq285 => ?_)
                · refine g_iconst (q := 298) B71 dL_holds_297 rfl ?_
                  refine g_icmp_ne (t := 305) (q := 301) B71 dL_holds_298 (by decide) rfl ⟨by omega, by omega⟩ ⟨by omega, by omega⟩ (fun cq298 => absurd cq298 (by omega)) (fun cq298 => ?_)
                  refine g_iconst (q := 302) B71 dL_holds_301 rfl ?_
                  refine g_goto (q := 306) B71 dL_holds_302 (by decide) ?_
                  refine g_istore (q := 308) B71 dL_holds_306 rfl (by decide) (L' := [(5, .int (iI 1)), (13, .int (iI (su + wv))), (15, .int (iI jj)), (0, .ref (yA Y 72)), (1, .int (iI (pG P 0))), (2, .int (iI (runsF (pG P)))), (3, .int (iI (pG P 4))), (4, .int (iI (pG P 1))), (6, .int (iI nx)), (7, .int (iI nd)), (8, .int (iI al)), (9, .int (iI r)), (10, .int (iI fp)), (11, .int (iI mny)), (12, .int (iI ow)), (14, .int (iI p))]) rfl ?_
                  refine g_iinc (n := 15) (q := 311) B71 dL_holds_308 rfl rfl (by decide) (L' := [(14, .int (iI (p + 1))), (5, .int (iI 1)), (13, .int (iI (su + wv))), (15, .int (iI jj)), (0, .ref (yA Y 72)), (1, .int (iI (pG P 0))), (2, .int (iI (runsF (pG P)))), (3, .int (iI (pG P 4))), (4, .int (iI (pG P 1))), (6, .int (iI nx)), (7, .int (iI nd)), (8, .int (iI al)), (9, .int (iI r)), (10, .int (iI fp)), (11, .int (iI mny)), (12, .int (iI ow))]) rfl ?_
                  refine g_goto (q := 170) B71 dL_holds_311 (by decide) ?_
                  refine g_sub [4, 5, 6, 7, 8, 1, 9, 10, 11, 12, 13, 14, 15, 2, 0] rfl ?_
                  exact ih2 (p + 1) (su + wv) (d + 6) S70 A70 T70 B71 (by omega) (by omega) (by rw [show (p + 1).toNat = p.toNat + 1 by omega, hs1, hv1, hsu]) (by omega) (by omega)
                · refine g_iload (q := 290) B71 dL_holds_288 rfl 15 rfl ?_
                  refine g_if_le (t := 297) (q := 293) B71 dL_holds_290 (by decide) rfl ⟨by omega, by omega⟩ (fun cq290 => ?_) (fun cq290 => ?_)
                  · refine g_iconst (q := 298) B71 dL_holds_297 rfl ?_
                    refine g_icmp_ne (t := 305) (q := 301) B71 dL_holds_298 (by decide) rfl ⟨by omega, by omega⟩ ⟨by omega, by omega⟩ (fun cq298 => absurd cq298 (by omega)) (fun cq298 => ?_)
                    refine g_iconst (q := 302) B71 dL_holds_301 rfl ?_
                    refine g_goto (q := 306) B71 dL_holds_302 (by decide) ?_
                    refine g_istore (q := 308) B71 dL_holds_306 rfl (by decide) (L' := [(5, .int (iI 1)), (13, .int (iI (su + wv))), (15, .int (iI jj)), (0, .ref (yA Y 72)), (1, .int (iI (pG P 0))), (2, .int (iI (runsF (pG P)))), (3, .int (iI (pG P 4))), (4, .int (iI (pG P 1))), (6, .int (iI nx)), (7, .int (iI nd)), (8, .int (iI al)), (9, .int (iI r)), (10, .int (iI fp)), (11, .int (iI mny)), (12, .int (iI ow)), (14, .int (iI p))]) rfl ?_
                    refine g_iinc (n := 15) (q := 311) B71 dL_holds_308 rfl rfl (by decide) (L' := [(14, .int (iI (p + 1))), (5, .int (iI 1)), (13, .int (iI (su + wv))), (15, .int (iI jj)), (0, .ref (yA Y 72)), (1, .int (iI (pG P 0))), (2, .int (iI (runsF (pG P)))), (3, .int (iI (pG P 4))), (4, .int (iI (pG P 1))), (6, .int (iI nx)), (7, .int (iI nd)), (8, .int (iI al)), (9, .int (iI r)), (10, .int (iI fp)), (11, .int (iI mny)), (12, .int (iI ow))]) rfl ?_
                    refine g_goto (q := 170) B71 dL_holds_311 (by decide) ?_
                    refine g_sub [4, 5, 6, 7, 8, 1, 9, 10, 11, 12, 13, 14, 15, 2, 0] rfl ?_
                    exact ih2 (p + 1) (su + wv) (d + 6) S70 A70 T70 B71 (by omega) (by omega) (by rw [show (p + 1).toNat = p.toNat + 1 by omega, hs1, hv1, hsu]) (by omega) (by omega)
                  · refine g_iconst (q := 294) B71 dL_holds_293 rfl ?_
                    refine g_goto (q := 298) B71 dL_holds_294 (by decide) ?_
                    refine g_icmp_ne (t := 305) (q := 301) B71 dL_holds_298 (by decide) rfl ⟨by omega, by omega⟩ ⟨by omega, by omega⟩ (fun cq298 => absurd cq298 (by omega)) (fun cq298 => ?_)
                    refine g_iconst (q := 302) B71 dL_holds_301 rfl ?_
                    refine g_goto (q := 306) B71 dL_holds_302 (by decide) ?_
                    refine g_istore (q := 308) B71 dL_holds_306 rfl (by decide) (L' := [(5, .int (iI 1)), (13, .int (iI (su + wv))), (15, .int (iI jj)), (0, .ref (yA Y 72)), (1, .int (iI (pG P 0))), (2, .int (iI (runsF (pG P)))), (3, .int (iI (pG P 4))), (4, .int (iI (pG P 1))), (6, .int (iI nx)), (7, .int (iI nd)), (8, .int (iI al)), (9, .int (iI r)), (10, .int (iI fp)), (11, .int (iI mny)), (12, .int (iI ow)), (14, .int (iI p))]) rfl ?_
                    refine g_iinc (n := 15) (q := 311) B71 dL_holds_308 rfl rfl (by decide) (L' := [(14, .int (iI (p + 1))), (5, .int (iI 1)), (13, .int (iI (su + wv))), (15, .int (iI jj)), (0, .ref (yA Y 72)), (1, .int (iI (pG P 0))), (2, .int (iI (runsF (pG P)))), (3, .int (iI (pG P 4))), (4, .int (iI (pG P 1))), (6, .int (iI nx)), (7, .int (iI nd)), (8, .int (iI al)), (9, .int (iI r)), (10, .int (iI fp)), (11, .int (iI mny)), (12, .int (iI ow))]) rfl ?_
                    refine g_goto (q := 170) B71 dL_holds_311 (by decide) ?_
                    refine g_sub [4, 5, 6, 7, 8, 1, 9, 10, 11, 12, 13, 14, 15, 2, 0] rfl ?_
                    exact ih2 (p + 1) (su + wv) (d + 6) S70 A70 T70 B71 (by omega) (by omega) (by rw [show (p + 1).toNat = p.toNat + 1 by omega, hs1, hv1, hsu]) (by omega) (by omega)
              · have hv1 : valF (pG P) jj = 1 := if_pos (by omega)
                refine g_iconst (q := 203) B61 dL_holds_202 rfl ?_
                refine g_goto (q := 215) B61 dL_holds_203 (by decide) ?_
                refine g_iadd (q := 216) B61 dL_holds_215 rfl ?_
                refine g_istore (q := 218) B61 dL_holds_216 rfl (by decide) (L' := [(13, .int (iI (su + 1))), (15, .int (iI jj)), (0, .ref (yA Y 72)), (1, .int (iI (pG P 0))), (2, .int (iI (runsF (pG P)))), (3, .int (iI (pG P 4))), (4, .int (iI (pG P 1))), (5, .int (iI 1)), (6, .int (iI nx)), (7, .int (iI nd)), (8, .int (iI al)), (9, .int (iI r)), (10, .int (iI fp)), (11, .int (iI mny)), (12, .int (iI ow)), (14, .int (iI p))]) rfl ?_
                refine g_iload (q := 220) B61 dL_holds_218 rfl 1 rfl ?_
                refine g_iload (q := 222) B61 dL_holds_220 rfl 6 rfl ?_
                refine g_iload (q := 224) B61 dL_holds_222 rfl 15 rfl ?_
                refine g_iadd (q := 225) B61 dL_holds_224 rfl ?_
                refine g_iload_n (q := 226) B61 dL_holds_225 rfl 3 rfl ?_
                refine g_irem (q := 227) B61 dL_holds_226 rfl (by omega) (by omega) (by omega) (by omega) ?_
                refine g_icmp_ne (t := 305) (q := 230) B61 dL_holds_227 (by decide) rfl ⟨by omega, by omega⟩ ⟨by omega, by omega⟩ (fun cq227 => absurd cq227 (by omega)) (fun cq227 => ?_)
                refine g_aload_n (q := 231) B61 dL_holds_230 rfl 2 rfl ?_
                refine g_iconst (q := 232) B61 dL_holds_231 rfl ?_
                refine g_iload (q := 234) B61 dL_holds_232 rfl 1 rfl ?_
                refine g_iconst (q := 235) B61 dL_holds_234 rfl ?_
                refine g_iconst (q := 236) B61 dL_holds_235 rfl ?_
                refine g_callN (q := 239) (m1 := 1) (c2 := d + 2) (As := [.ref (yA Y 72), .int (iI 3), .int (iI jj), .int (iI 2), .int (iI 0)]) (st := []) B61 dL_holds_236 rfl (k_jewelOf (Y := Y) (S := S60) hst A60 W jj ⟨by omega, by omega⟩ 2 ⟨by omega, by omega⟩ 0 (x := p) (hx := (tv_0 ((if_pos ⟨by omega, by omega⟩).trans (if_pos (by decide)))).trans (by rw [← hjj]; exact jw_place hw (by omega) (by omega)))) eL_call w179 (by decide) rfl rfl (Nat.le_of_ble_eq_true rfl) (by omega) (Nat.le_trans (show d + 2 ≤ 400 by omega) E.2.1) (Nat.le_trans (show 6 * (d + 2) ≤ 6 * 400 by omega) E.2.2) (fun v S72 hS72 => ?_)
                obtain ⟨rfl, A72, K72⟩ := hS72
                have T72 := kp_t T60 K72
                have B73 := gB_K (c := d + 2) B61 (Nat.le_trans (show d + 2 ≤ 400 by omega) E.2.1) (Nat.le_trans (show 6 * (d + 2) ≤ 6 * 400 by omega) E.2.2)
                show gW Y (xK X (d + 2)) S72 239 [(13, .int (iI (su + 1))), (15, .int (iI jj)), (0, .ref (yA Y 72)), (1, .int (iI (pG P 0))), (2, .int (iI (runsF (pG P)))), (3, .int (iI (pG P 4))), (4, .int (iI (pG P 1))), (5, .int (iI 1)), (6, .int (iI nx)), (7, .int (iI nd)), (8, .int (iI al)), (9, .int (iI r)), (10, .int (iI fp)), (11, .int (iI mny)), (12, .int (iI ow)), (14, .int (iI p))] [.int (iI p)]
                refine g_iload (q := 241) B73 dL_holds_239 rfl 15 rfl ?_
                refine g_icmp_ne (t := 305) (q := 244) B73 dL_holds_241 (by decide) rfl ⟨by omega, by omega⟩ ⟨by omega, by omega⟩ (fun cq241 => absurd cq241 (by omega)) (fun cq241 => ?_)
                refine g_aload_n (q := 245) B73 dL_holds_244 rfl 2 rfl ?_
                refine g_iconst (q := 246) B73 dL_holds_245 rfl ?_
                refine g_iload (q := 248) B73 dL_holds_246 rfl 15 rfl ?_
                refine g_iconst (q := 249) B73 dL_holds_248 rfl ?_
                refine g_iconst (q := 250) B73 dL_holds_249 rfl ?_
                refine g_callN (q := 253) (m1 := 1) (c2 := d + 3) (As := [.ref (yA Y 72), .int (iI 4), .int (iI p), .int (iI 1), .int (iI 0)]) (st := []) B73 dL_holds_250 rfl (k_placeOf (Y := Y) (S := S72) hst A72 W p ⟨by omega, by omega⟩ 1 ⟨by omega, by omega⟩ 0 (x := ow) (hx := (tv_0 ((if_pos ⟨by omega, by omega⟩).trans (if_pos (by decide)))).trans ((own_runI hw (by omega) (by omega) hpr).trans how))) eL_call w179 (by decide) rfl rfl (Nat.le_of_ble_eq_true rfl) (by omega) (Nat.le_trans (show d + 3 ≤ 400 by omega) E.2.1) (Nat.le_trans (show 6 * (d + 3) ≤ 6 * 400 by omega) E.2.2) (fun v S74 hS74 => ?_)
                obtain ⟨rfl, A74, K74⟩ := hS74
                have T74 := kp_t T72 K74
                have B75 := gB_K (c := d + 3) B73 (Nat.le_trans (show d + 3 ≤ 400 by omega) E.2.1) (Nat.le_trans (show 6 * (d + 3) ≤ 6 * 400 by omega) E.2.2)
                show gW Y (xK X (d + 3)) S74 253 [(13, .int (iI (su + 1))), (15, .int (iI jj)), (0, .ref (yA Y 72)), (1, .int (iI (pG P 0))), (2, .int (iI (runsF (pG P)))), (3, .int (iI (pG P 4))), (4, .int (iI (pG P 1))), (5, .int (iI 1)), (6, .int (iI nx)), (7, .int (iI nd)), (8, .int (iI al)), (9, .int (iI r)), (10, .int (iI fp)), (11, .int (iI mny)), (12, .int (iI ow)), (14, .int (iI p))] [.int (iI ow)]
                refine g_iload (q := 255) B75 dL_holds_253 rfl 14 rfl ?_
                refine g_icmp_ne (t := 305) (q := 258) B75 dL_holds_255 (by decide) rfl ⟨by omega, by omega⟩ ⟨by omega, by omega⟩ (fun cq255 => absurd cq255 (by omega)) (fun cq255 => ?_)
                refine g_aload_n (q := 259) B75 dL_holds_258 rfl 2 rfl ?_
                refine g_iconst (q := 260) B75 dL_holds_259 rfl ?_
                refine g_iload (q := 262) B75 dL_holds_260 rfl 15 rfl ?_
                refine g_iconst (q := 263) B75 dL_holds_262 rfl ?_
                refine g_iconst (q := 264) B75 dL_holds_263 rfl ?_
                refine g_callN (q := 267) (m1 := 1) (c2 := d + 4) (As := [.ref (yA Y 72), .int (iI 4), .int (iI p), .int (iI 2), .int (iI 0)]) (st := []) B75 dL_holds_264 rfl (k_placeOf (Y := Y) (S := S74) hst A74 W p ⟨by omega, by omega⟩ 2 ⟨by omega, by omega⟩ 0 (x := r) (hx := (tv_0 ((if_pos ⟨by omega, by omega⟩).trans (if_pos (by decide)))).trans hpr)) eL_call w179 (by decide) rfl rfl (Nat.le_of_ble_eq_true rfl) (by omega) (Nat.le_trans (show d + 4 ≤ 400 by omega) E.2.1) (Nat.le_trans (show 6 * (d + 4) ≤ 6 * 400 by omega) E.2.2) (fun v S76 hS76 => ?_)
                obtain ⟨rfl, A76, K76⟩ := hS76
                have T76 := kp_t T74 K76
                have B77 := gB_K (c := d + 4) B75 (Nat.le_trans (show d + 4 ≤ 400 by omega) E.2.1) (Nat.le_trans (show 6 * (d + 4) ≤ 6 * 400 by omega) E.2.2)
                show gW Y (xK X (d + 4)) S76 267 [(13, .int (iI (su + 1))), (15, .int (iI jj)), (0, .ref (yA Y 72)), (1, .int (iI (pG P 0))), (2, .int (iI (runsF (pG P)))), (3, .int (iI (pG P 4))), (4, .int (iI (pG P 1))), (5, .int (iI 1)), (6, .int (iI nx)), (7, .int (iI nd)), (8, .int (iI al)), (9, .int (iI r)), (10, .int (iI fp)), (11, .int (iI mny)), (12, .int (iI ow)), (14, .int (iI p))] [.int (iI r)]
                refine g_iload (q := 269) B77 dL_holds_267 rfl 11 rfl ?_
                refine g_icmp_ne (t := 305) (q := 272) B77 dL_holds_269 (by decide) rfl ⟨by omega, by omega⟩ ⟨by omega, by omega⟩ (fun cq269 => absurd cq269 (by omega)) (fun cq269 => ?_)
                refine g_aload_n (q := 273) B77 dL_holds_272 rfl 2 rfl ?_
                refine g_iconst (q := 274) B77 dL_holds_273 rfl ?_
                refine g_iload (q := 276) B77 dL_holds_274 rfl 15 rfl ?_
                refine g_iconst (q := 277) B77 dL_holds_276 rfl ?_
                refine g_iconst (q := 278) B77 dL_holds_277 rfl ?_
                refine g_callN (q := 281) (m1 := 1) (c2 := d + 5) (As := [.ref (yA Y 72), .int (iI 4), .int (iI p), .int (iI 3), .int (iI 0)]) (st := []) B77 dL_holds_278 rfl (k_placeOf (Y := Y) (S := S76) hst A76 W p ⟨by omega, by omega⟩ 3 ⟨by omega, by omega⟩ 0 (x := bt) (hx := (tv_0 ((if_pos ⟨by omega, by omega⟩).trans (if_pos (by decide)))).trans hbt)) eL_call w179 (by decide) rfl rfl (Nat.le_of_ble_eq_true rfl) (by omega) (Nat.le_trans (show d + 5 ≤ 400 by omega) E.2.1) (Nat.le_trans (show 6 * (d + 5) ≤ 6 * 400 by omega) E.2.2) (fun v S78 hS78 => ?_)
                obtain ⟨rfl, A78, K78⟩ := hS78
                have T78 := kp_t T76 K78
                have B79 := gB_K (c := d + 5) B77 (Nat.le_trans (show d + 5 ≤ 400 by omega) E.2.1) (Nat.le_trans (show 6 * (d + 5) ≤ 6 * 400 by omega) E.2.2)
                show gW Y (xK X (d + 5)) S78 281 [(13, .int (iI (su + 1))), (15, .int (iI jj)), (0, .ref (yA Y 72)), (1, .int (iI (pG P 0))), (2, .int (iI (runsF (pG P)))), (3, .int (iI (pG P 4))), (4, .int (iI (pG P 1))), (5, .int (iI 1)), (6, .int (iI nx)), (7, .int (iI nd)), (8, .int (iI al)), (9, .int (iI r)), (10, .int (iI fp)), (11, .int (iI mny)), (12, .int (iI ow)), (14, .int (iI p))] [.int (iI bt)]
                refine g_iload (q := 283) B79 dL_holds_281 rfl 15 rfl ?_
                refine g_iload (q := 285) B79 dL_holds_283 rfl 12 rfl ?_
                refine g_icmp_ne (t := 297) (q := 288) B79 dL_holds_285 (by decide) rfl ⟨by omega, by omega⟩ ⟨by omega, by omega⟩ (fun cq285 => ?_) (fun cq285 => ?_)
                · refine g_iconst (q := 298) B79 dL_holds_297 rfl ?_
                  refine g_icmp_ne (t := 305) (q := 301) B79 dL_holds_298 (by decide) rfl ⟨by omega, by omega⟩ ⟨by omega, by omega⟩ (fun cq298 => absurd cq298 (by omega)) (fun cq298 => ?_)
                  refine g_iconst (q := 302) B79 dL_holds_301 rfl ?_
                  refine g_goto (q := 306) B79 dL_holds_302 (by decide) ?_
                  refine g_istore (q := 308) B79 dL_holds_306 rfl (by decide) (L' := [(5, .int (iI 1)), (13, .int (iI (su + 1))), (15, .int (iI jj)), (0, .ref (yA Y 72)), (1, .int (iI (pG P 0))), (2, .int (iI (runsF (pG P)))), (3, .int (iI (pG P 4))), (4, .int (iI (pG P 1))), (6, .int (iI nx)), (7, .int (iI nd)), (8, .int (iI al)), (9, .int (iI r)), (10, .int (iI fp)), (11, .int (iI mny)), (12, .int (iI ow)), (14, .int (iI p))]) rfl ?_
                  refine g_iinc (n := 15) (q := 311) B79 dL_holds_308 rfl rfl (by decide) (L' := [(14, .int (iI (p + 1))), (5, .int (iI 1)), (13, .int (iI (su + 1))), (15, .int (iI jj)), (0, .ref (yA Y 72)), (1, .int (iI (pG P 0))), (2, .int (iI (runsF (pG P)))), (3, .int (iI (pG P 4))), (4, .int (iI (pG P 1))), (6, .int (iI nx)), (7, .int (iI nd)), (8, .int (iI al)), (9, .int (iI r)), (10, .int (iI fp)), (11, .int (iI mny)), (12, .int (iI ow))]) rfl ?_
                  refine g_goto (q := 170) B79 dL_holds_311 (by decide) ?_
                  refine g_sub [4, 5, 6, 7, 8, 1, 9, 10, 11, 12, 13, 14, 15, 2, 0] rfl ?_
                  exact ih2 (p + 1) (su + 1) (d + 5) S78 A78 T78 B79 (by omega) (by omega) (by rw [show (p + 1).toNat = p.toNat + 1 by omega, hs1, hv1, hsu]) (by omega) (by omega)
                · refine g_iload (q := 290) B79 dL_holds_288 rfl 15 rfl ?_
                  refine g_if_le (t := 297) (q := 293) B79 dL_holds_290 (by decide) rfl ⟨by omega, by omega⟩ (fun cq290 => ?_) (fun cq290 => ?_)
                  · refine g_iconst (q := 298) B79 dL_holds_297 rfl ?_
                    refine g_icmp_ne (t := 305) (q := 301) B79 dL_holds_298 (by decide) rfl ⟨by omega, by omega⟩ ⟨by omega, by omega⟩ (fun cq298 => absurd cq298 (by omega)) (fun cq298 => ?_)
                    refine g_iconst (q := 302) B79 dL_holds_301 rfl ?_
                    refine g_goto (q := 306) B79 dL_holds_302 (by decide) ?_
                    refine g_istore (q := 308) B79 dL_holds_306 rfl (by decide) (L' := [(5, .int (iI 1)), (13, .int (iI (su + 1))), (15, .int (iI jj)), (0, .ref (yA Y 72)), (1, .int (iI (pG P 0))), (2, .int (iI (runsF (pG P)))), (3, .int (iI (pG P 4))), (4, .int (iI (pG P 1))), (6, .int (iI nx)), (7, .int (iI nd)), (8, .int (iI al)), (9, .int (iI r)), (10, .int (iI fp)), (11, .int (iI mny)), (12, .int (iI ow)), (14, .int (iI p))]) rfl ?_
                    refine g_iinc (n := 15) (q := 311) B79 dL_holds_308 rfl rfl (by decide) (L' := [(14, .int (iI (p + 1))), (5, .int (iI 1)), (13, .int (iI (su + 1))), (15, .int (iI jj)), (0, .ref (yA Y 72)), (1, .int (iI (pG P 0))), (2, .int (iI (runsF (pG P)))), (3, .int (iI (pG P 4))), (4, .int (iI (pG P 1))), (6, .int (iI nx)), (7, .int (iI nd)), (8, .int (iI al)), (9, .int (iI r)), (10, .int (iI fp)), (11, .int (iI mny)), (12, .int (iI ow))]) rfl ?_
                    refine g_goto (q := 170) B79 dL_holds_311 (by decide) ?_
                    refine g_sub [4, 5, 6, 7, 8, 1, 9, 10, 11, 12, 13, 14, 15, 2, 0] rfl ?_
                    exact ih2 (p + 1) (su + 1) (d + 5) S78 A78 T78 B79 (by omega) (by omega) (by rw [show (p + 1).toNat = p.toNat + 1 by omega, hs1, hv1, hsu]) (by omega) (by omega)
                  · refine g_iconst (q := 294) B79 dL_holds_293 rfl ?_
                    refine g_goto (q := 298) B79 dL_holds_294 (by decide) ?_
                    refine g_icmp_ne (t := 305) (q := 301) B79 dL_holds_298 (by decide) rfl ⟨by omega, by omega⟩ ⟨by omega, by omega⟩ (fun cq298 => absurd cq298 (by omega)) (fun cq298 => ?_)
                    refine g_iconst (q := 302) B79 dL_holds_301 rfl ?_
                    refine g_goto (q := 306) B79 dL_holds_302 (by decide) ?_
                    refine g_istore (q := 308) B79 dL_holds_306 rfl (by decide) (L' := [(5, .int (iI 1)), (13, .int (iI (su + 1))), (15, .int (iI jj)), (0, .ref (yA Y 72)), (1, .int (iI (pG P 0))), (2, .int (iI (runsF (pG P)))), (3, .int (iI (pG P 4))), (4, .int (iI (pG P 1))), (6, .int (iI nx)), (7, .int (iI nd)), (8, .int (iI al)), (9, .int (iI r)), (10, .int (iI fp)), (11, .int (iI mny)), (12, .int (iI ow)), (14, .int (iI p))]) rfl ?_
                    refine g_iinc (n := 15) (q := 311) B79 dL_holds_308 rfl rfl (by decide) (L' := [(14, .int (iI (p + 1))), (5, .int (iI 1)), (13, .int (iI (su + 1))), (15, .int (iI jj)), (0, .ref (yA Y 72)), (1, .int (iI (pG P 0))), (2, .int (iI (runsF (pG P)))), (3, .int (iI (pG P 4))), (4, .int (iI (pG P 1))), (6, .int (iI nx)), (7, .int (iI nd)), (8, .int (iI al)), (9, .int (iI r)), (10, .int (iI fp)), (11, .int (iI mny)), (12, .int (iI ow))]) rfl ?_
                    refine g_goto (q := 170) B79 dL_holds_311 (by decide) ?_
                    refine g_sub [4, 5, 6, 7, 8, 1, 9, 10, 11, 12, 13, 14, 15, 2, 0] rfl ?_
                    exact ih2 (p + 1) (su + 1) (d + 5) S78 A78 T78 B79 (by omega) (by omega) (by rw [show (p + 1).toNat = p.toNat + 1 by omega, hs1, hv1, hsu]) (by omega) (by omega)
        refine g_iload (q := 168) B55 dL_holds_166 rfl 4 rfl ?_
        refine g_istore (q := 170) B55 dL_holds_168 rfl (by decide) (L' := [(14, .int (iI fp)), (5, .int (iI 1)), (13, .int (iI 0)), (12, .int (iI ow)), (11, .int (iI mny)), (10, .int (iI fp)), (0, .ref (yA Y 72)), (1, .int (iI (pG P 0))), (2, .int (iI (runsF (pG P)))), (3, .int (iI (pG P 4))), (4, .int (iI (pG P 1))), (6, .int (iI nx)), (7, .int (iI nd)), (8, .int (iI al)), (9, .int (iI r))]) rfl ?_
        refine g_sub [6, 7, 8, 9, 10, 1, 11, 12, 13, 14, 5, 4, 3, 2, 0] rfl ?_
        exact lp170 _ fp 0 (c + 3) S54 A54 T54 B55 (by omega) (by omega) (by rw [← hfp]; exact (rvG_0 hw r0 (show r ≤ runsF (pG P) - 1 by omega)).symm) (by omega) (Nat.lt_succ_self _)
  have T0 := kp_r S
  show gW Y (xK X 0) S 0 [(0, .ref (yA Y 72))] []
  refine g_aload_n (q := 1) B dL_holds_0 rfl 0 rfl ?_
  refine g_iconst (q := 2) B dL_holds_1 rfl ?_
  refine g_iconst (q := 3) B dL_holds_2 rfl ?_
  refine g_iconst (q := 4) B dL_holds_3 rfl ?_
  refine g_iconst (q := 5) B dL_holds_4 rfl ?_
  refine g_callN (q := 8) (m1 := 1) (c2 := 1) (As := [.ref (yA Y 72), .int (iI 2), .int (iI 0), .int (iI 0), .int (iI 0)]) (st := []) B dL_holds_5 rfl (k_about (Y := Y) (S := S) hst A0 W 0 ⟨by omega, by omega⟩ 0 0 (x := pG P 0) (hx := rfl)) eL_call w179 (by decide) rfl rfl (Nat.le_of_ble_eq_true rfl) (by omega) (Nat.le_trans (show 1 ≤ 400 by omega) E.2.1) (Nat.le_trans (show 6 * (1) ≤ 6 * 400 by omega) E.2.2) (fun v S81 hS81 => ?_)
  obtain ⟨rfl, A81, K81⟩ := hS81
  have T81 := kp_t T0 K81
  have B82 := gB_K (c := 1) B (Nat.le_trans (show 1 ≤ 400 by omega) E.2.1) (Nat.le_trans (show 6 * (1) ≤ 6 * 400 by omega) E.2.2)
  show gW Y (xK X (1)) S81 8 [(0, .ref (yA Y 72))] [.int (iI (pG P 0))]
  refine g_istore_n (q := 9) B82 dL_holds_8 rfl (by decide) (L' := [(1, .int (iI (pG P 0))), (0, .ref (yA Y 72))]) rfl ?_
  refine g_aload_n (q := 10) B82 dL_holds_9 rfl 1 rfl ?_
  refine g_iconst (q := 11) B82 dL_holds_10 rfl ?_
  refine g_iconst (q := 12) B82 dL_holds_11 rfl ?_
  refine g_iconst (q := 13) B82 dL_holds_12 rfl ?_
  refine g_iconst (q := 14) B82 dL_holds_13 rfl ?_
  refine g_callN (q := 17) (m1 := 1) (c2 := 2) (As := [.ref (yA Y 72), .int (iI 2), .int (iI 3), .int (iI 0), .int (iI 0)]) (st := []) B82 dL_holds_14 rfl (k_about (Y := Y) (S := S81) hst A81 W 3 ⟨by omega, by omega⟩ 0 0 (x := runsF (pG P)) (hx := rfl)) eL_call w179 (by decide) rfl rfl (Nat.le_of_ble_eq_true rfl) (by omega) (Nat.le_trans (show 2 ≤ 400 by omega) E.2.1) (Nat.le_trans (show 6 * (2) ≤ 6 * 400 by omega) E.2.2) (fun v S83 hS83 => ?_)
  obtain ⟨rfl, A83, K83⟩ := hS83
  have T83 := kp_t T81 K83
  have B84 := gB_K (c := 2) B82 (Nat.le_trans (show 2 ≤ 400 by omega) E.2.1) (Nat.le_trans (show 6 * (2) ≤ 6 * 400 by omega) E.2.2)
  show gW Y (xK X (2)) S83 17 [(1, .int (iI (pG P 0))), (0, .ref (yA Y 72))] [.int (iI (runsF (pG P)))]
  refine g_istore_n (q := 18) B84 dL_holds_17 rfl (by decide) (L' := [(2, .int (iI (runsF (pG P)))), (1, .int (iI (pG P 0))), (0, .ref (yA Y 72))]) rfl ?_
  refine g_aload_n (q := 19) B84 dL_holds_18 rfl 2 rfl ?_
  refine g_iconst (q := 20) B84 dL_holds_19 rfl ?_
  refine g_bipush (q := 22) B84 dL_holds_20 rfl (by decide) ?_
  refine g_iconst (q := 23) B84 dL_holds_22 rfl ?_
  refine g_iconst (q := 24) B84 dL_holds_23 rfl ?_
  refine g_callN (q := 27) (m1 := 1) (c2 := 3) (As := [.ref (yA Y 72), .int (iI 2), .int (iI 9), .int (iI 0), .int (iI 0)]) (st := []) B84 dL_holds_24 rfl (k_about (Y := Y) (S := S83) hst A83 W 9 ⟨by omega, by omega⟩ 0 0 (x := pG P 4) (hx := rfl)) eL_call w179 (by decide) rfl rfl (Nat.le_of_ble_eq_true rfl) (by omega) (Nat.le_trans (show 3 ≤ 400 by omega) E.2.1) (Nat.le_trans (show 6 * (3) ≤ 6 * 400 by omega) E.2.2) (fun v S85 hS85 => ?_)
  obtain ⟨rfl, A85, K85⟩ := hS85
  have T85 := kp_t T83 K85
  have B86 := gB_K (c := 3) B84 (Nat.le_trans (show 3 ≤ 400 by omega) E.2.1) (Nat.le_trans (show 6 * (3) ≤ 6 * 400 by omega) E.2.2)
  show gW Y (xK X (3)) S85 27 [(2, .int (iI (runsF (pG P)))), (1, .int (iI (pG P 0))), (0, .ref (yA Y 72))] [.int (iI (pG P 4))]
  refine g_istore_n (q := 28) B86 dL_holds_27 rfl (by decide) (L' := [(3, .int (iI (pG P 4))), (2, .int (iI (runsF (pG P)))), (1, .int (iI (pG P 0))), (0, .ref (yA Y 72))]) rfl ?_
  refine g_aload_n (q := 29) B86 dL_holds_28 rfl 3 rfl ?_
  refine g_iconst (q := 30) B86 dL_holds_29 rfl ?_
  refine g_iconst (q := 31) B86 dL_holds_30 rfl ?_
  refine g_iconst (q := 32) B86 dL_holds_31 rfl ?_
  refine g_iconst (q := 33) B86 dL_holds_32 rfl ?_
  refine g_callN (q := 36) (m1 := 1) (c2 := 4) (As := [.ref (yA Y 72), .int (iI 2), .int (iI 1), .int (iI 0), .int (iI 0)]) (st := []) B86 dL_holds_33 rfl (k_about (Y := Y) (S := S85) hst A85 W 1 ⟨by omega, by omega⟩ 0 0 (x := pG P 1) (hx := rfl)) eL_call w179 (by decide) rfl rfl (Nat.le_of_ble_eq_true rfl) (by omega) (Nat.le_trans (show 4 ≤ 400 by omega) E.2.1) (Nat.le_trans (show 6 * (4) ≤ 6 * 400 by omega) E.2.2) (fun v S87 hS87 => ?_)
  obtain ⟨rfl, A87, K87⟩ := hS87
  have T87 := kp_t T85 K87
  have B88 := gB_K (c := 4) B86 (Nat.le_trans (show 4 ≤ 400 by omega) E.2.1) (Nat.le_trans (show 6 * (4) ≤ 6 * 400 by omega) E.2.2)
  show gW Y (xK X (4)) S87 36 [(3, .int (iI (pG P 4))), (2, .int (iI (runsF (pG P)))), (1, .int (iI (pG P 0))), (0, .ref (yA Y 72))] [.int (iI (pG P 1))]
  refine g_istore (q := 38) B88 dL_holds_36 rfl (by decide) (L' := [(4, .int (iI (pG P 1))), (3, .int (iI (pG P 4))), (2, .int (iI (runsF (pG P)))), (1, .int (iI (pG P 0))), (0, .ref (yA Y 72))]) rfl ?_
  refine g_iload_n (q := 39) B88 dL_holds_38 rfl 3 rfl ?_
  refine g_bipush (q := 41) B88 dL_holds_39 rfl (by decide) ?_
  refine g_icmp_gt (t := 73) (q := 44) B88 dL_holds_41 (by decide) rfl ⟨by omega, by omega⟩ ⟨by omega, by omega⟩ (fun cq41 => absurd cq41 (by omega)) (fun cq41 => ?_)
  refine g_iload_n (q := 45) B88 dL_holds_44 rfl 2 rfl ?_
  refine g_aload_n (q := 46) B88 dL_holds_45 rfl 4 rfl ?_
  refine g_iconst (q := 47) B88 dL_holds_46 rfl ?_
  refine g_iconst (q := 48) B88 dL_holds_47 rfl ?_
  refine g_iconst (q := 49) B88 dL_holds_48 rfl ?_
  refine g_iconst (q := 50) B88 dL_holds_49 rfl ?_
  refine g_callN (q := 53) (m1 := 1) (c2 := 5) (As := [.ref (yA Y 72), .int (iI 2), .int (iI 2), .int (iI 0), .int (iI 0)]) (st := [.int (iI (runsF (pG P)))]) B88 dL_holds_50 rfl (k_about (Y := Y) (S := S87) hst A87 W 2 ⟨by omega, by omega⟩ 0 0 (x := cc) (hx := hcc)) eL_call w179 (by decide) rfl rfl (Nat.le_of_ble_eq_true rfl) (by omega) (Nat.le_trans (show 5 ≤ 400 by omega) E.2.1) (Nat.le_trans (show 6 * (5) ≤ 6 * 400 by omega) E.2.2) (fun v S89 hS89 => ?_)
  obtain ⟨rfl, A89, K89⟩ := hS89
  have T89 := kp_t T87 K89
  have B90 := gB_K (c := 5) B88 (Nat.le_trans (show 5 ≤ 400 by omega) E.2.1) (Nat.le_trans (show 6 * (5) ≤ 6 * 400 by omega) E.2.2)
  show gW Y (xK X (5)) S89 53 [(4, .int (iI (pG P 1))), (3, .int (iI (pG P 4))), (2, .int (iI (runsF (pG P)))), (1, .int (iI (pG P 0))), (0, .ref (yA Y 72))] [.int (iI cc), .int (iI (runsF (pG P)))]
  refine g_iconst (q := 54) B90 dL_holds_53 rfl ?_
  refine g_iadd (q := 55) B90 dL_holds_54 rfl ?_
  refine g_icmp_ne (t := 73) (q := 58) B90 dL_holds_55 (by decide) rfl ⟨by omega, by omega⟩ ⟨by omega, by omega⟩ (fun cq55 => absurd cq55 (by omega)) (fun cq55 => ?_)
  refine g_iload (q := 60) B90 dL_holds_58 rfl 0 rfl ?_
  refine g_if_lt (t := 73) (q := 63) B90 dL_holds_60 (by decide) rfl ⟨by omega, by omega⟩ (fun cq60 => absurd cq60 (by omega)) (fun cq60 => ?_)
  refine g_iload (q := 65) B90 dL_holds_63 rfl 0 rfl ?_
  refine g_iload_n (q := 66) B90 dL_holds_65 rfl 3 rfl ?_
  refine g_icmp_ge (t := 73) (q := 69) B90 dL_holds_66 (by decide) rfl ⟨by omega, by omega⟩ ⟨by omega, by omega⟩ (fun cq66 => absurd cq66 (by omega)) (fun cq66 => ?_)
  refine g_iconst (q := 70) B90 dL_holds_69 rfl ?_
  refine g_goto (q := 74) B90 dL_holds_70 (by decide) ?_
  refine g_istore (q := 76) B90 dL_holds_74 rfl (by decide) (L' := [(5, .int (iI 1)), (4, .int (iI (pG P 1))), (3, .int (iI (pG P 4))), (2, .int (iI (runsF (pG P)))), (1, .int (iI (pG P 0))), (0, .ref (yA Y 72))]) rfl ?_
  refine g_iconst (q := 77) B90 dL_holds_76 rfl ?_
  refine g_istore (q := 79) B90 dL_holds_77 rfl (by decide) (L' := [(6, .int (iI 0)), (5, .int (iI 1)), (4, .int (iI (pG P 1))), (3, .int (iI (pG P 4))), (2, .int (iI (runsF (pG P)))), (1, .int (iI (pG P 0))), (0, .ref (yA Y 72))]) rfl ?_
  refine g_iconst (q := 80) B90 dL_holds_79 rfl ?_
  refine g_istore (q := 82) B90 dL_holds_80 rfl (by decide) (L' := [(7, .int (iI 0)), (6, .int (iI 0)), (5, .int (iI 1)), (4, .int (iI (pG P 1))), (3, .int (iI (pG P 4))), (2, .int (iI (runsF (pG P)))), (1, .int (iI (pG P 0))), (0, .ref (yA Y 72))]) rfl ?_
  refine g_iconst (q := 83) B90 dL_holds_82 rfl ?_
  refine g_istore (q := 85) B90 dL_holds_83 rfl (by decide) (L' := [(8, .int (iI 0)), (7, .int (iI 0)), (6, .int (iI 0)), (5, .int (iI 1)), (4, .int (iI (pG P 1))), (3, .int (iI (pG P 4))), (2, .int (iI (runsF (pG P)))), (1, .int (iI (pG P 0))), (0, .ref (yA Y 72))]) rfl ?_
  refine g_iconst (q := 86) B90 dL_holds_85 rfl ?_
  refine g_istore (q := 88) B90 dL_holds_86 rfl (by decide) (L' := [(9, .int (iI 0)), (8, .int (iI 0)), (7, .int (iI 0)), (6, .int (iI 0)), (5, .int (iI 1)), (4, .int (iI (pG P 1))), (3, .int (iI (pG P 4))), (2, .int (iI (runsF (pG P)))), (1, .int (iI (pG P 0))), (0, .ref (yA Y 72))]) rfl ?_
  refine g_sub [9, 8, 7, 6, 5, 4, 3, 2, 1, 0] rfl ?_
  exact lp88 _ 0 0 0 0 (5) S89 A89 T89 B90 (by omega) (by omega) (prS_0 _).symm (prS_0 _).symm (prS_0 _).symm (by omega) (by omega) (Nat.lt_succ_self _)
