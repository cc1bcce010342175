set_option maxHeartbeats 4000000 in
theorem c_X3_groupsAbove {Y : gY} {l : Launch} {S : SS} (s : Int) (h0 : 0 ≤ s ∧ s < 9223372036854775808) (n : Int) (hn : 0 ≤ n ∧ n ≤ 3) : gM Y l mX3_groupsAbove S [.long (lI s), .int (iI n)] (pV (.long (lI (s / pw5 n.toNat))) (fun S' => S' = S)) := by
  refine gM_of (by decide) (Nat.le_of_ble_eq_true rfl) ?_
  intro X hXl B E
  show gW Y X S 0 [(0, .long (lI s)), (2, .int (iI n))] []
  have lp5 : ∀ (fu : Nat) (kx : Nat) (x3 x5 : Int) , x3 = (s / pw5 kx) → x5 = ((kx : Int)) → (kx : Int) ≤ n → 4 - kx < fu → gW Y X S 5 [(0, .long (lI s)), (2, .int (iI n)), (3, .long (lI x3)), (5, .int (iI x5))] [] := by
    intro fu
    induction fu with
    | zero =>
      intro kx x3 x5 e_x3 e_x5 hk hfu
      exact absurd hfu (Nat.not_lt_zero _)
    | succ fu ih =>
      intro kx x3 x5 e_x3 e_x5 hk hfu
      subst e_x3
      subst e_x5
      have hpk := pw5_in kx (by omega)
      have hq0 : 0 ≤ s / pw5 kx := Int.ediv_nonneg h0.1 (by omega)
      have hq1 : s / pw5 kx ≤ s := Int.ediv_le_self _ h0.1
      refine g_iload (q := 7) B dX3_groupsAbove_5 rfl 3 rfl ?_
      refine g_iload_n (q := 8) B dX3_groupsAbove_7 rfl 1 rfl ?_
      refine g_icmp_ge (t := 23) (q := 11) B dX3_groupsAbove_8 (by decide) rfl ⟨by omega, by omega⟩ ⟨by omega, by omega⟩ (fun cq8 => ?_) (fun cq8 => ?_)
      · refine g_lload_n (q := 24) B dX3_groupsAbove_23 rfl 2 rfl ?_
        refine g_lret B E dX3_groupsAbove_24 ?_
        exact ⟨by rw [show n.toNat = kx by omega], rfl⟩
      · refine g_lload_n (q := 12) B dX3_groupsAbove_11 rfl 2 rfl ?_
        refine g_ldc2 (z := 100000) (q := 15) B dX3_groupsAbove_12 rfl w863 (by decide) ?_
        refine g_ldiv (q := 16) B dX3_groupsAbove_15 rfl (by omega) (by omega) (by omega) (by omega) ?_
        refine g_lstore_n (q := 17) B dX3_groupsAbove_16 rfl (by decide) (L' := [(3, .long (lI ((s / pw5 kx) / 100000))), (0, .long (lI s)), (2, .int (iI n)), (5, .int (iI ((kx : Int))))]) rfl ?_
        refine g_iinc (n := 3) (q := 20) B dX3_groupsAbove_17 rfl rfl (by decide) (L' := [(5, .int (iI ((kx : Int) + 1))), (3, .long (lI ((s / pw5 kx) / 100000))), (0, .long (lI s)), (2, .int (iI n))]) rfl ?_
        refine g_goto (q := 5) B dX3_groupsAbove_20 (by decide) ?_
        refine g_sub [2, 3, 1, 0] rfl ?_
        exact ih (kx + 1) _ _ (by exact pw5_s s kx) (by first | rfl | omega) (by first | assumption | omega) (by omega)
  refine g_lload_n (q := 1) B dX3_groupsAbove_0 rfl 0 rfl ?_
  refine g_lstore_n (q := 2) B dX3_groupsAbove_1 rfl (by decide) (L' := [(3, .long (lI s)), (0, .long (lI s)), (2, .int (iI n))]) rfl ?_
  refine g_iconst (q := 3) B dX3_groupsAbove_2 rfl ?_
  refine g_istore (q := 5) B dX3_groupsAbove_3 rfl (by decide) (L' := [(5, .int (iI 0)), (3, .long (lI s)), (0, .long (lI s)), (2, .int (iI n))]) rfl ?_
  refine g_sub [2, 3, 1, 0] rfl ?_
  exact lp5 _ 0 _ _ (by exact (Int.ediv_one s).symm) (by first | rfl | omega) (by first | assumption | omega) (Nat.lt_succ_self _)
set_option maxHeartbeats 4000000 in
theorem c_X3_isDividedWithin {Y : gY} {l : Launch} {S : SS} {i : Nat} (hi : i < 18) (hw : wf (vw S i)) (lim : Int) (hl : -1 ≤ lim ∧ lim < 1000) (h780 : S 78 0 = 0) : gM Y l mX3_isDividedWithin S [.int (iI lim), .ref (yA Y (4 * i)), .ref (yA Y 77)] (pV (.int (iI (dwB (vw S i) lim))) (fun S' => fdv S S')) := by
  refine gM_of (by decide) (Nat.le_of_ble_eq_true rfl) ?_
  intro X hXl B E
  obtain ⟨⟨hn0, hn16⟩, ⟨hb0, hb1⟩, ⟨hm0, hm1⟩, ⟨hs0, hs1⟩, ⟨hc0, hc1⟩, hct, hkw, how, hun⟩ := wfS hw
  have euq : uq (vw S i) 1 (S (4 * i) 1) = vw S i := uq_1 (vw S i)
  show gW Y X S 0 [(0, .int (iI lim)), (1, .ref (yA Y (4 * i))), (2, .ref (yA Y 77))] []
  refine g_aload_n (q := 1) B dX3_isDividedWithin_0 rfl 2 rfl ?_
  refine g_aload_n (q := 2) B dX3_isDividedWithin_1 rfl 1 rfl ?_
  refine g_aload_n (q := 3) B dX3_isDividedWithin_2 rfl 1 rfl ?_
  refine g_get (n := (4 * i)) (ty := tyX2) (q := 6) (v := .int (iI (S ((4 * i)) 1))) B dX3_isDividedWithin_3 rfl rfl (cw_N hi (S ((4 * i)))) cls2 1 (by decide) w69 rfl ?_
  refine g_callV (n := 77) (ty := tyX0) (q := 9) (As := [.ref (yA Y (4 * i)), .int (iI (S ((4 * i)) 1))]) (st := []) B dX3_isDividedWithin_6 rfl (c_X0_weigh (l := xL X) (S := S) hi hw (S ((4 * i)) 1) (by omega) (by omega) h780) eX0_weigh w879 (by decide) rfl rfl cls0 rfl rfl (Nat.le_of_ble_eq_true rfl) (g_k0 (fun Sy hSy => ?_))
  obtain ⟨hdSy, hfSy⟩ := hSy
  rw [euq] at hdSy
  refine g_aload_n (q := 10) B dX3_isDividedWithin_9 rfl 2 rfl ?_
  refine g_iload_n (q := 11) B dX3_isDividedWithin_10 rfl 0 rfl ?_
  refine g_callV (n := 77) (ty := tyX0) (q := 14) (As := [.int (iI lim)]) (st := []) B dX3_isDividedWithin_11 rfl (c_X0_fewestByCuts (l := xL X) (S := Sy) hdSy hw lim (by omega)) eX0_fewestByCuts w880 (by decide) rfl rfl cls0 rfl rfl (Nat.le_of_ble_eq_true rfl) (g_kV (fun Sz hSz => ?_))
  obtain ⟨hcSz, hySz⟩ := hSz
  have hfb := fbV_in (vw S i) lim
  refine g_iconst (q := 15) B dX3_isDividedWithin_14 rfl ?_
  refine g_icmp_eq (t := 22) (q := 18) B dX3_isDividedWithin_15 (by decide) rfl ⟨by omega, by omega⟩ ⟨by omega, by omega⟩ (fun cq15 => ?_) (fun cq15 => ?_)
  · refine g_iconst (q := 23) B dX3_isDividedWithin_22 rfl ?_
    refine g_zret B E dX3_isDividedWithin_23 rfl (by decide) ?_
    exact ⟨by rw [dwB, if_pos (by omega)], fun m h7 h8 h9 => (hcSz m h9).trans (hfSy m h7 h8), by rw [hcSz 78 (by decide)]; exact wd_0 hdSy hw.1.1⟩
  · refine g_iconst (q := 19) B dX3_isDividedWithin_18 rfl ?_
    refine g_goto (q := 23) B dX3_isDividedWithin_19 (by decide) ?_
    refine g_zret B E dX3_isDividedWithin_23 rfl (by decide) ?_
    exact ⟨by rw [dwB, if_neg (by omega)], fun m h7 h8 h9 => (hcSz m h9).trans (hfSy m h7 h8), by rw [hcSz 78 (by decide)]; exact wd_0 hdSy hw.1.1⟩
set_option maxHeartbeats 4000000 in
theorem c_X3_succeeds {Y : gY} {l : Launch} {S : SS} (gq : Int) (hg : 0 ≤ gq ∧ gq < 100000) {i : Nat} (hi : i < 18) (hw : wf (vw S i)) (h780 : S 78 0 = 0) : gM Y l mX3_succeeds S [.int (iI gq), .ref (yA Y (4 * i)), .ref (yA Y 77)] (pV (.int (iI (cmB (gq / 10000) (gq % 10000) (vw S i)))) (fun S' => vw S' i = ccG (gq / 10000) (gq % 10000) (vw S i) ∧ (∀ m : Nat, (m < 4 * i ∨ 4 * i + 4 ≤ m) → m ≠ 77 → m ≠ 78 → m ≠ 79 → S' m = S m) ∧ S' 78 0 = 0)) := by
  refine gM_of (by decide) (Nat.le_of_ble_eq_true rfl) ?_
  intro X hXl B E
  obtain ⟨⟨hn0, hn16⟩, ⟨hb0, hb1⟩, ⟨hm0, hm1⟩, ⟨hs0, hs1⟩, ⟨hc0, hc1⟩, hct, hkw, how, hun⟩ := wfS hw
  have m0 : vw S i 0 = S (4 * i) 0 := rfl
  have hrr := runsF_in (vw S i)
  show gW Y X S 0 [(0, .int (iI gq)), (1, .ref (yA Y (4 * i))), (2, .ref (yA Y 77))] []
  refine g_aload_n (q := 1) B dX3_succeeds_0 rfl 1 rfl ?_
  refine g_ifnull (q := 4) B dX3_succeeds_1 rfl ?_
  refine g_aload_n (q := 5) B dX3_succeeds_4 rfl 2 rfl ?_
  refine g_ifnonnull (q := 10) B dX3_succeeds_5 (by decide) ?_
  refine g_iload_n (q := 11) B dX3_succeeds_10 rfl 0 rfl ?_
  refine g_bipush (q := 13) B dX3_succeeds_11 rfl (by decide) ?_
  refine g_idiv (q := 14) B dX3_succeeds_13 rfl (by omega) (by omega) (by omega) (by omega) ?_
  refine g_bipush (q := 16) B dX3_succeeds_14 rfl (by decide) ?_
  refine g_irem (q := 17) B dX3_succeeds_16 rfl (by omega) (by omega) (by omega) (by omega) ?_
  refine g_istore_n (q := 18) B dX3_succeeds_17 rfl (by decide) (L' := [(3, .int (iI ((gq / 100) % 100))), (0, .int (iI gq)), (1, .ref (yA Y (4 * i))), (2, .ref (yA Y 77))]) rfl ?_
  refine g_iload_n (q := 19) B dX3_succeeds_18 rfl 1 rfl ?_
  refine g_bipush (q := 21) B dX3_succeeds_19 rfl (by decide) ?_
  refine g_idiv (q := 22) B dX3_succeeds_21 rfl (by omega) (by omega) (by omega) (by omega) ?_
  refine g_bipush (q := 24) B dX3_succeeds_22 rfl (by decide) ?_
  refine g_irem (q := 25) B dX3_succeeds_24 rfl (by omega) (by omega) (by omega) (by omega) ?_
  refine g_istore (q := 27) B dX3_succeeds_25 rfl (by decide) (L' := [(4, .int (iI ((gq / 10) % 10))), (3, .int (iI ((gq / 100) % 100))), (0, .int (iI gq)), (1, .ref (yA Y (4 * i))), (2, .ref (yA Y 77))]) rfl ?_
  refine g_iload_n (q := 28) B dX3_succeeds_27 rfl 2 rfl ?_
  refine g_bipush (q := 30) B dX3_succeeds_28 rfl (by decide) ?_
  refine g_irem (q := 31) B dX3_succeeds_30 rfl (by omega) (by omega) (by omega) (by omega) ?_
  refine g_istore (q := 33) B dX3_succeeds_31 rfl (by decide) (L' := [(5, .int (iI (gq % 10))), (4, .int (iI ((gq / 10) % 10))), (3, .int (iI ((gq / 100) % 100))), (0, .int (iI gq)), (1, .ref (yA Y (4 * i))), (2, .ref (yA Y 77))]) rfl ?_
  refine g_iload_n (q := 34) B dX3_succeeds_33 rfl 3 rfl ?_
  refine g_sipush (q := 37) B dX3_succeeds_34 rfl (by decide) ?_
  refine g_idiv (q := 38) B dX3_succeeds_37 rfl (by omega) (by omega) (by omega) (by omega) ?_
  rcases (show (gq / 10000) = 1 ∨ (gq / 10000) = 2 ∨ (gq / 10000) = 3 ∨ (gq / 10000) = 4 ∨ (gq / 10000) = 5 ∨ (gq / 10000) = 6 ∨ (gq / 10000) = 7 ∨ (gq / 10000) = 8 ∨ (gq / 10000) = 9 ∨ ((gq / 10000) ≠ 1 ∧ (gq / 10000) ≠ 2 ∧ (gq / 10000) ≠ 3 ∧ (gq / 10000) ≠ 4 ∧ (gq / 10000) ≠ 5 ∧ (gq / 10000) ≠ 6 ∧ (gq / 10000) ≠ 7 ∧ (gq / 10000) ≠ 8 ∧ (gq / 10000) ≠ 9) by omega) with cq38 | cq38 | cq38 | cq38 | cq38 | cq38 | cq38 | cq38 | cq38 | cq38
  · refine g_tsIn (q := 88) B 1 dX3_succeeds_38 cq38 ⟨by decide, by decide, by decide, by decide⟩ rfl (by decide) ?_
    refine g_iload (q := 90) B dX3_succeeds_88 rfl 1 rfl ?_
    refine g_if_ne (t := 122) (q := 93) B dX3_succeeds_90 (by decide) rfl ⟨by omega, by omega⟩ (fun cq90 => ?_) (fun cq90 => ?_)
    · refine g_iconst (q := 123) B dX3_succeeds_122 rfl ?_
      refine g_zret B E dX3_succeeds_123 rfl (by decide) ?_
      have eB : cmB (gq / 10000) (gq % 10000) (vw S i) = 0 := by
        rw [show gq / 10000 = 1 from cq38]
        show (if (gq % 10000) % 100 < 2 ∧ 1 ≤ (gq % 10000) / 100 ∧ (gq % 10000) / 100 ≤ vw S i 0 - 1 then 1 else 0) = (0 : Int)
        (repeat' split) <;> omega
      have eG : vw S i = ccG (gq / 10000) (gq % 10000) (vw S i) := by
        rw [show gq / 10000 = 1 from cq38]
        exact (if_neg (show ¬ (gq % 10000 % 100 < 2) by omega)).symm
      exact ⟨congrArg (fun z => some (Value.int (iI z))) (show (0 : Int) = _ from eB.symm), eG, fun _ _ _ _ _ => rfl, h780⟩
    · refine g_iload (q := 95) B dX3_succeeds_93 rfl 0 rfl ?_
      refine g_iconst (q := 96) B dX3_succeeds_95 rfl ?_
      refine g_icmp_gt (t := 122) (q := 99) B dX3_succeeds_96 (by decide) rfl ⟨by omega, by omega⟩ ⟨by omega, by omega⟩ (fun cq96 => ?_) (fun cq96 => ?_)
      · refine g_iconst (q := 123) B dX3_succeeds_122 rfl ?_
        refine g_zret B E dX3_succeeds_123 rfl (by decide) ?_
        have eB : cmB (gq / 10000) (gq % 10000) (vw S i) = 0 := by
          rw [show gq / 10000 = 1 from cq38]
          show (if (gq % 10000) % 100 < 2 ∧ 1 ≤ (gq % 10000) / 100 ∧ (gq % 10000) / 100 ≤ vw S i 0 - 1 then 1 else 0) = (0 : Int)
          (repeat' split) <;> omega
        have eG : vw S i = ccG (gq / 10000) (gq % 10000) (vw S i) := by
          rw [show gq / 10000 = 1 from cq38]
          exact (if_neg (show ¬ (gq % 10000 % 100 < 2) by omega)).symm
        exact ⟨congrArg (fun z => some (Value.int (iI z))) (show (0 : Int) = _ from eB.symm), eG, fun _ _ _ _ _ => rfl, h780⟩
      · refine g_aload_n (q := 100) B dX3_succeeds_99 rfl 4 rfl ?_
        refine g_iload_n (q := 101) B dX3_succeeds_100 rfl 2 rfl ?_
        refine g_iload (q := 103) B dX3_succeeds_101 rfl 0 rfl ?_
        refine g_iconst (q := 104) B dX3_succeeds_103 rfl ?_
        refine g_icmp_ne (t := 111) (q := 107) B dX3_succeeds_104 (by decide) rfl ⟨by omega, by omega⟩ ⟨by omega, by omega⟩ (fun cq104 => ?_) (fun cq104 => ?_)
        · refine g_iconst (q := 112) B dX3_succeeds_111 rfl ?_
          refine g_callV (n := (4 * i)) (ty := tyX2) (q := 115) (As := [.int (iI ((gq / 100) % 100)), .int (iI 0)]) (st := []) B dX3_succeeds_112 rfl (c_X2_setCut (l := xL X) (S := S) hi hw ((gq / 100) % 100) 0 ⟨by omega, by omega⟩ (by omega)) eX2_setCut w869 (by decide) rfl (cw_N hi (S ((4 * i)))) cls2 rfl rfl (Nat.le_of_ble_eq_true rfl) (g_kV (fun Sy hSy => ?_))
          obtain ⟨hvSy, hfSy⟩ := hSy
          refine g_ifb_eq (t := 122) (q := 118) B dX3_succeeds_115 (by decide) rfl (fun cq115 => ?_) (fun cq115 => ?_)
          · refine g_iconst (q := 123) B dX3_succeeds_122 rfl ?_
            refine g_zret B E dX3_succeeds_123 rfl (by decide) ?_
            have eB : cmB (gq / 10000) (gq % 10000) (vw S i) = 0 := by
              rw [show gq / 10000 = 1 from cq38]
              show (if (gq % 10000) % 100 < 2 ∧ 1 ≤ (gq % 10000) / 100 ∧ (gq % 10000) / 100 ≤ vw S i 0 - 1 then 1 else 0) = (0 : Int)
              (repeat' split) <;> omega
            have eG : vw Sy i = ccG (gq / 10000) (gq % 10000) (vw S i) := by
              rw [show gq / 10000 = 1 from cq38, hvSy]
              show _ = if gq % 10000 % 100 < 2 then cutG (vw S i) (gq % 10000 / 100) (gq % 10000 % 100) else vw S i
              rw [if_pos (by omega), show gq % 10000 / 100 = gq / 100 % 100 by omega, show gq % 10000 % 100 = 0 by omega]
            exact ⟨congrArg (fun z => some (Value.int (iI z))) (show (0 : Int) = _ from eB.symm), eG, fun m h _ _ _ => hfSy m h, (congrFun (hfSy 78 (by omega)) 0).trans h780⟩
          · refine g_iconst (q := 119) B dX3_succeeds_118 rfl ?_
            refine g_goto (q := 123) B dX3_succeeds_119 (by decide) ?_
            refine g_zret B E dX3_succeeds_123 rfl (by decide) ?_
            have eB : cmB (gq / 10000) (gq % 10000) (vw S i) = 1 := by
              rw [show gq / 10000 = 1 from cq38]
              show (if (gq % 10000) % 100 < 2 ∧ 1 ≤ (gq % 10000) / 100 ∧ (gq % 10000) / 100 ≤ vw S i 0 - 1 then 1 else 0) = (1 : Int)
              (repeat' split) <;> omega
            have eG : vw Sy i = ccG (gq / 10000) (gq % 10000) (vw S i) := by
              rw [show gq / 10000 = 1 from cq38, hvSy]
              show _ = if gq % 10000 % 100 < 2 then cutG (vw S i) (gq % 10000 / 100) (gq % 10000 % 100) else vw S i
              rw [if_pos (by omega), show gq % 10000 / 100 = gq / 100 % 100 by omega, show gq % 10000 % 100 = 0 by omega]
            exact ⟨congrArg (fun z => some (Value.int (iI z))) (show (1 : Int) = _ from eB.symm), eG, fun m h _ _ _ => hfSy m h, (congrFun (hfSy 78 (by omega)) 0).trans h780⟩
        · refine g_iconst (q := 108) B dX3_succeeds_107 rfl ?_
          refine g_goto (q := 112) B dX3_succeeds_108 (by decide) ?_
          refine g_callV (n := (4 * i)) (ty := tyX2) (q := 115) (As := [.int (iI ((gq / 100) % 100)), .int (iI 1)]) (st := []) B dX3_succeeds_112 rfl (c_X2_setCut (l := xL X) (S := S) hi hw ((gq / 100) % 100) 1 ⟨by omega, by omega⟩ (by omega)) eX2_setCut w869 (by decide) rfl (cw_N hi (S ((4 * i)))) cls2 rfl rfl (Nat.le_of_ble_eq_true rfl) (g_kV (fun Sy hSy => ?_))
          obtain ⟨hvSy, hfSy⟩ := hSy
          refine g_ifb_eq (t := 122) (q := 118) B dX3_succeeds_115 (by decide) rfl (fun cq115 => ?_) (fun cq115 => ?_)
          · refine g_iconst (q := 123) B dX3_succeeds_122 rfl ?_
            refine g_zret B E dX3_succeeds_123 rfl (by decide) ?_
            have eB : cmB (gq / 10000) (gq % 10000) (vw S i) = 0 := by
              rw [show gq / 10000 = 1 from cq38]
              show (if (gq % 10000) % 100 < 2 ∧ 1 ≤ (gq % 10000) / 100 ∧ (gq % 10000) / 100 ≤ vw S i 0 - 1 then 1 else 0) = (0 : Int)
              (repeat' split) <;> omega
            have eG : vw Sy i = ccG (gq / 10000) (gq % 10000) (vw S i) := by
              rw [show gq / 10000 = 1 from cq38, hvSy]
              show _ = if gq % 10000 % 100 < 2 then cutG (vw S i) (gq % 10000 / 100) (gq % 10000 % 100) else vw S i
              rw [if_pos (by omega), show gq % 10000 / 100 = gq / 100 % 100 by omega, show gq % 10000 % 100 = 1 by omega]
            exact ⟨congrArg (fun z => some (Value.int (iI z))) (show (0 : Int) = _ from eB.symm), eG, fun m h _ _ _ => hfSy m h, (congrFun (hfSy 78 (by omega)) 0).trans h780⟩
          · refine g_iconst (q := 119) B dX3_succeeds_118 rfl ?_
            refine g_goto (q := 123) B dX3_succeeds_119 (by decide) ?_
            refine g_zret B E dX3_succeeds_123 rfl (by decide) ?_
            have eB : cmB (gq / 10000) (gq % 10000) (vw S i) = 1 := by
              rw [show gq / 10000 = 1 from cq38]
              show (if (gq % 10000) % 100 < 2 ∧ 1 ≤ (gq % 10000) / 100 ∧ (gq % 10000) / 100 ≤ vw S i 0 - 1 then 1 else 0) = (1 : Int)
              (repeat' split) <;> omega
            have eG : vw Sy i = ccG (gq / 10000) (gq % 10000) (vw S i) := by
              rw [show gq / 10000 = 1 from cq38, hvSy]
              show _ = if gq % 10000 % 100 < 2 then cutG (vw S i) (gq % 10000 / 100) (gq % 10000 % 100) else vw S i
              rw [if_pos (by omega), show gq % 10000 / 100 = gq / 100 % 100 by omega, show gq % 10000 % 100 = 1 by omega]
            exact ⟨congrArg (fun z => some (Value.int (iI z))) (show (1 : Int) = _ from eB.symm), eG, fun m h _ _ _ => hfSy m h, (congrFun (hfSy 78 (by omega)) 0).trans h780⟩
  · refine g_tsIn (q := 124) B 2 dX3_succeeds_38 cq38 ⟨by decide, by decide, by decide, by decide⟩ rfl (by decide) ?_
    refine g_iload (q := 126) B dX3_succeeds_124 rfl 1 rfl ?_
    refine g_if_ne (t := 152) (q := 129) B dX3_succeeds_126 (by decide) rfl ⟨by omega, by omega⟩ (fun cq126 => ?_) (fun cq126 => ?_)
    · refine g_iconst (q := 153) B dX3_succeeds_152 rfl ?_
      refine g_zret B E dX3_succeeds_153 rfl (by decide) ?_
      have eB : cmB (gq / 10000) (gq % 10000) (vw S i) = 0 := by
        rw [show gq / 10000 = 2 from cq38]
        show (if (gq % 10000) % 100 < 3 ∧ 0 ≤ (gq % 10000) / 100 ∧ (gq % 10000) / 100 ≤ runsF (vw S i) - 1 then 1 else 0) = (0 : Int)
        rw [show (gq % 10000) / 100 = gq / 100 % 100 by omega]
        (repeat' split) <;> omega
      have eG : vw S i = ccG (gq / 10000) (gq % 10000) (vw S i) := by
        rw [show gq / 10000 = 2 from cq38]
        exact (if_neg (show ¬ (gq % 10000 % 100 < 3) by omega)).symm
      exact ⟨congrArg (fun z => some (Value.int (iI z))) (show (0 : Int) = _ from eB.symm), eG, fun _ _ _ _ _ => rfl, h780⟩
    · refine g_iload (q := 131) B dX3_succeeds_129 rfl 0 rfl ?_
      refine g_iconst (q := 132) B dX3_succeeds_131 rfl ?_
      refine g_icmp_gt (t := 152) (q := 135) B dX3_succeeds_132 (by decide) rfl ⟨by omega, by omega⟩ ⟨by omega, by omega⟩ (fun cq132 => ?_) (fun cq132 => ?_)
      · refine g_iconst (q := 153) B dX3_succeeds_152 rfl ?_
        refine g_zret B E dX3_succeeds_153 rfl (by decide) ?_
        have eB : cmB (gq / 10000) (gq % 10000) (vw S i) = 0 := by
          rw [show gq / 10000 = 2 from cq38]
          show (if (gq % 10000) % 100 < 3 ∧ 0 ≤ (gq % 10000) / 100 ∧ (gq % 10000) / 100 ≤ runsF (vw S i) - 1 then 1 else 0) = (0 : Int)
          rw [show (gq % 10000) / 100 = gq / 100 % 100 by omega]
          (repeat' split) <;> omega
        have eG : vw S i = ccG (gq / 10000) (gq % 10000) (vw S i) := by
          rw [show gq / 10000 = 2 from cq38]
          exact (if_neg (show ¬ (gq % 10000 % 100 < 3) by omega)).symm
        exact ⟨congrArg (fun z => some (Value.int (iI z))) (show (0 : Int) = _ from eB.symm), eG, fun _ _ _ _ _ => rfl, h780⟩
      · refine g_aload_n (q := 136) B dX3_succeeds_135 rfl 4 rfl ?_
        refine g_iload_n (q := 137) B dX3_succeeds_136 rfl 2 rfl ?_
        refine g_iload (q := 139) B dX3_succeeds_137 rfl 0 rfl ?_
        refine g_callSN (q := 142) (As := [.int (iI (gq % 10))]) (st := [.int (iI ((gq / 100) % 100)), .ref (yA Y (4 * i))]) B dX3_succeeds_139 rfl (c_X7_ownerFor (l := xL X) (S := S) (gq % 10) ⟨by omega, by omega⟩) eX7_ownerFor w870 (by decide) rfl rfl (Nat.le_of_ble_eq_true rfl) (g_kE ?_)
        refine g_callV (n := (4 * i)) (ty := tyX2) (q := 145) (As := [.int (iI ((gq / 100) % 100)), .int (iI (if (gq % 10) = 2 then -1 else (gq % 10)))]) (st := []) B dX3_succeeds_142 rfl (c_X2_giveRun (l := xL X) (S := S) hi (wf.q hw) ((gq / 100) % 100) (if (gq % 10) = 2 then -1 else (gq % 10)) ⟨by omega, by omega⟩ ⟨by split <;> omega, by split <;> omega⟩) eX2_giveRun w871 (by decide) rfl (cw_N hi (S ((4 * i)))) cls2 rfl rfl (Nat.le_of_ble_eq_true rfl) (g_kV (fun Sy hSy => ?_))
        obtain ⟨hvSy, hfSy⟩ := hSy
        refine g_ifb_eq (t := 152) (q := 148) B dX3_succeeds_145 (by decide) rfl (fun cq145 => ?_) (fun cq145 => ?_)
        · refine g_iconst (q := 153) B dX3_succeeds_152 rfl ?_
          refine g_zret B E dX3_succeeds_153 rfl (by decide) ?_
          have eB : cmB (gq / 10000) (gq % 10000) (vw S i) = 0 := by
            rw [show gq / 10000 = 2 from cq38]
            show (if (gq % 10000) % 100 < 3 ∧ 0 ≤ (gq % 10000) / 100 ∧ (gq % 10000) / 100 ≤ runsF (vw S i) - 1 then 1 else 0) = (0 : Int)
            rw [show (gq % 10000) / 100 = gq / 100 % 100 by omega]
            (repeat' split) <;> omega
          have eG : vw Sy i = ccG (gq / 10000) (gq % 10000) (vw S i) := by
            rw [show gq / 10000 = 2 from cq38, hvSy]
            show _ = if gq % 10000 % 100 < 3 then giveG (vw S i) (gq % 10000 / 100) (enO (gq % 10000 % 100)) else vw S i
            rw [if_pos (show gq % 10000 % 100 < 3 by omega), show gq % 10000 / 100 = gq / 100 % 100 by omega, show gq % 10000 % 100 = gq % 10 by omega]
            rfl
          exact ⟨congrArg (fun z => some (Value.int (iI z))) (show (0 : Int) = _ from eB.symm), eG, fun m h _ _ _ => hfSy m h, (congrFun (hfSy 78 (by omega)) 0).trans h780⟩
        · refine g_iconst (q := 149) B dX3_succeeds_148 rfl ?_
          refine g_goto (q := 153) B dX3_succeeds_149 (by decide) ?_
          refine g_zret B E dX3_succeeds_153 rfl (by decide) ?_
          have eB : cmB (gq / 10000) (gq % 10000) (vw S i) = 1 := by
            rw [show gq / 10000 = 2 from cq38]
            show (if (gq % 10000) % 100 < 3 ∧ 0 ≤ (gq % 10000) / 100 ∧ (gq % 10000) / 100 ≤ runsF (vw S i) - 1 then 1 else 0) = (1 : Int)
            rw [show (gq % 10000) / 100 = gq / 100 % 100 by omega]
            (repeat' split) <;> omega
          have eG : vw Sy i = ccG (gq / 10000) (gq % 10000) (vw S i) := by
            rw [show gq / 10000 = 2 from cq38, hvSy]
            show _ = if gq % 10000 % 100 < 3 then giveG (vw S i) (gq % 10000 / 100) (enO (gq % 10000 % 100)) else vw S i
            rw [if_pos (show gq % 10000 % 100 < 3 by omega), show gq % 10000 / 100 = gq / 100 % 100 by omega, show gq % 10000 % 100 = gq % 10 by omega]
            rfl
          exact ⟨congrArg (fun z => some (Value.int (iI z))) (show (1 : Int) = _ from eB.symm), eG, fun m h _ _ _ => hfSy m h, (congrFun (hfSy 78 (by omega)) 0).trans h780⟩
  · refine g_tsIn (q := 154) B 3 dX3_succeeds_38 cq38 ⟨by decide, by decide, by decide, by decide⟩ rfl (by decide) ?_
    refine g_iload (q := 156) B dX3_succeeds_154 rfl 1 rfl ?_
    refine g_if_ne (t := 176) (q := 159) B dX3_succeeds_156 (by decide) rfl ⟨by omega, by omega⟩ (fun cq156 => ?_) (fun cq156 => ?_)
    · refine g_iconst (q := 177) B dX3_succeeds_176 rfl ?_
      refine g_zret B E dX3_succeeds_177 rfl (by decide) ?_
      have eB : cmB (gq / 10000) (gq % 10000) (vw S i) = 0 := by
        rw [show gq / 10000 = 3 from cq38]
        show (if (gq % 10000) % 100 = 0 ∧ (0 ≤ (gq % 10000) / 100 ∧ (gq % 10000) / 100 ≤ runsF (vw S i) - 1) ∧ whyF (vw S i) ((gq % 10000) / 100) = 0 then 1 else 0) = (0 : Int)
        rw [show (gq % 10000) / 100 = gq / 100 % 100 by omega]
        (repeat' split) <;> omega
      have eG : vw S i = ccG (gq / 10000) (gq % 10000) (vw S i) := by
        rw [show gq / 10000 = 3 from cq38]
        exact (if_neg (show ¬ (gq % 10000 % 100 = 0) by omega)).symm
      exact ⟨congrArg (fun z => some (Value.int (iI z))) (show (0 : Int) = _ from eB.symm), eG, fun _ _ _ _ _ => rfl, h780⟩
    · refine g_iload (q := 161) B dX3_succeeds_159 rfl 0 rfl ?_
      refine g_if_ne (t := 176) (q := 164) B dX3_succeeds_161 (by decide) rfl ⟨by omega, by omega⟩ (fun cq161 => ?_) (fun cq161 => ?_)
      · refine g_iconst (q := 177) B dX3_succeeds_176 rfl ?_
        refine g_zret B E dX3_succeeds_177 rfl (by decide) ?_
        have eB : cmB (gq / 10000) (gq % 10000) (vw S i) = 0 := by
          rw [show gq / 10000 = 3 from cq38]
          show (if (gq % 10000) % 100 = 0 ∧ (0 ≤ (gq % 10000) / 100 ∧ (gq % 10000) / 100 ≤ runsF (vw S i) - 1) ∧ whyF (vw S i) ((gq % 10000) / 100) = 0 then 1 else 0) = (0 : Int)
          rw [show (gq % 10000) / 100 = gq / 100 % 100 by omega]
          (repeat' split) <;> omega
        have eG : vw S i = ccG (gq / 10000) (gq % 10000) (vw S i) := by
          rw [show gq / 10000 = 3 from cq38]
          exact (if_neg (show ¬ (gq % 10000 % 100 = 0) by omega)).symm
        exact ⟨congrArg (fun z => some (Value.int (iI z))) (show (0 : Int) = _ from eB.symm), eG, fun _ _ _ _ _ => rfl, h780⟩
      · refine g_aload_n (q := 165) B dX3_succeeds_164 rfl 4 rfl ?_
        refine g_iload_n (q := 166) B dX3_succeeds_165 rfl 2 rfl ?_
        refine g_callV (n := (4 * i)) (ty := tyX2) (q := 169) (As := [.int (iI ((gq / 100) % 100))]) (st := []) B dX3_succeeds_166 rfl (c_X2_takeRun (l := xL X) (S := S) hi hw ((gq / 100) % 100) ⟨by omega, by omega⟩) eX2_takeRun w872 (by decide) rfl (cw_N hi (S ((4 * i)))) cls2 rfl rfl (Nat.le_of_ble_eq_true rfl) (g_kV (fun Sy hSy => ?_))
        obtain ⟨hvSy, hfSy⟩ := hSy
        refine g_ifb_eq (t := 176) (q := 172) B dX3_succeeds_169 (by decide) rfl (fun cq169 => ?_) (fun cq169 => ?_)
        · refine g_iconst (q := 177) B dX3_succeeds_176 rfl ?_
          refine g_zret B E dX3_succeeds_177 rfl (by decide) ?_
          have eB : cmB (gq / 10000) (gq % 10000) (vw S i) = 0 := by
            rw [show gq / 10000 = 3 from cq38]
            show (if (gq % 10000) % 100 = 0 ∧ (0 ≤ (gq % 10000) / 100 ∧ (gq % 10000) / 100 ≤ runsF (vw S i) - 1) ∧ whyF (vw S i) ((gq % 10000) / 100) = 0 then 1 else 0) = (0 : Int)
            rw [show (gq % 10000) / 100 = gq / 100 % 100 by omega]
            (repeat' split) <;> omega
          have eG : vw Sy i = ccG (gq / 10000) (gq % 10000) (vw S i) := by
            rw [show gq / 10000 = 3 from cq38, hvSy]
            show _ = if gq % 10000 % 100 = 0 then takeG (vw S i) (gq % 10000 / 100) else vw S i
            rw [if_pos (by omega), show gq % 10000 / 100 = gq / 100 % 100 by omega]
          exact ⟨congrArg (fun z => some (Value.int (iI z))) (show (0 : Int) = _ from eB.symm), eG, fun m h _ _ _ => hfSy m h, (congrFun (hfSy 78 (by omega)) 0).trans h780⟩
        · refine g_iconst (q := 173) B dX3_succeeds_172 rfl ?_
          refine g_goto (q := 177) B dX3_succeeds_173 (by decide) ?_
          refine g_zret B E dX3_succeeds_177 rfl (by decide) ?_
          have eB : cmB (gq / 10000) (gq % 10000) (vw S i) = 1 := by
            rw [show gq / 10000 = 3 from cq38]
            show (if (gq % 10000) % 100 = 0 ∧ (0 ≤ (gq % 10000) / 100 ∧ (gq % 10000) / 100 ≤ runsF (vw S i) - 1) ∧ whyF (vw S i) ((gq % 10000) / 100) = 0 then 1 else 0) = (1 : Int)
            rw [show (gq % 10000) / 100 = gq / 100 % 100 by omega]
            (repeat' split) <;> omega
          have eG : vw Sy i = ccG (gq / 10000) (gq % 10000) (vw S i) := by
            rw [show gq / 10000 = 3 from cq38, hvSy]
            show _ = if gq % 10000 % 100 = 0 then takeG (vw S i) (gq % 10000 / 100) else vw S i
            rw [if_pos (by omega), show gq % 10000 / 100 = gq / 100 % 100 by omega]
          exact ⟨congrArg (fun z => some (Value.int (iI z))) (show (1 : Int) = _ from eB.symm), eG, fun m h _ _ _ => hfSy m h, (congrFun (hfSy 78 (by omega)) 0).trans h780⟩
  · refine g_tsIn (q := 178) B 4 dX3_succeeds_38 cq38 ⟨by decide, by decide, by decide, by decide⟩ rfl (by decide) ?_
    refine g_iload_n (q := 179) B dX3_succeeds_178 rfl 2 rfl ?_
    refine g_if_ne (t := 200) (q := 182) B dX3_succeeds_179 (by decide) rfl ⟨by omega, by omega⟩ (fun cq179 => ?_) (fun cq179 => ?_)
    · refine g_iconst (q := 201) B dX3_succeeds_200 rfl ?_
      refine g_zret B E dX3_succeeds_201 rfl (by decide) ?_
      have eB : cmB (gq / 10000) (gq % 10000) (vw S i) = 0 := by
        rw [show gq / 10000 = 4 from cq38]
        show (if (gq % 10000) < 2 then 1 else 0) = (0 : Int)
        (repeat' split) <;> omega
      have eG : vw S i = ccG (gq / 10000) (gq % 10000) (vw S i) := by
        rw [show gq / 10000 = 4 from cq38]
        exact (if_neg (show ¬ (gq % 10000 < 2) by omega)).symm
      exact ⟨congrArg (fun z => some (Value.int (iI z))) (show (0 : Int) = _ from eB.symm), eG, fun _ _ _ _ _ => rfl, h780⟩
    · refine g_iload (q := 184) B dX3_succeeds_182 rfl 1 rfl ?_
      refine g_if_ne (t := 200) (q := 187) B dX3_succeeds_184 (by decide) rfl ⟨by omega, by omega⟩ (fun cq184 => ?_) (fun cq184 => ?_)
      · refine g_iconst (q := 201) B dX3_succeeds_200 rfl ?_
        refine g_zret B E dX3_succeeds_201 rfl (by decide) ?_
        have eB : cmB (gq / 10000) (gq % 10000) (vw S i) = 0 := by
          rw [show gq / 10000 = 4 from cq38]
          show (if (gq % 10000) < 2 then 1 else 0) = (0 : Int)
          (repeat' split) <;> omega
        have eG : vw S i = ccG (gq / 10000) (gq % 10000) (vw S i) := by
          rw [show gq / 10000 = 4 from cq38]
          exact (if_neg (show ¬ (gq % 10000 < 2) by omega)).symm
        exact ⟨congrArg (fun z => some (Value.int (iI z))) (show (0 : Int) = _ from eB.symm), eG, fun _ _ _ _ _ => rfl, h780⟩
      · refine g_aload_n (q := 188) B dX3_succeeds_187 rfl 4 rfl ?_
        refine g_iload (q := 190) B dX3_succeeds_188 rfl 0 rfl ?_
        refine g_callV (n := (4 * i)) (ty := tyX2) (q := 193) (As := [.int (iI (gq % 10))]) (st := []) B dX3_succeeds_190 rfl (c_X2_dealRuns (l := xL X) (S := S) hi hw (gq % 10) ⟨by omega, by omega⟩) eX2_dealRuns w873 (by decide) rfl (cw_N hi (S ((4 * i)))) cls2 rfl rfl (Nat.le_of_ble_eq_true rfl) (g_kV (fun Sy hSy => ?_))
        obtain ⟨hvSy, hfSy⟩ := hSy
        refine g_ifb_eq (t := 200) (q := 196) B dX3_succeeds_193 (by decide) rfl (fun cq193 => ?_) (fun cq193 => ?_)
        · refine g_iconst (q := 201) B dX3_succeeds_200 rfl ?_
          refine g_zret B E dX3_succeeds_201 rfl (by decide) ?_
          have eB : cmB (gq / 10000) (gq % 10000) (vw S i) = 0 := by
            rw [show gq / 10000 = 4 from cq38]
            show (if (gq % 10000) < 2 then 1 else 0) = (0 : Int)
            (repeat' split) <;> omega
          have eG : vw Sy i = ccG (gq / 10000) (gq % 10000) (vw S i) := by
            rw [show gq / 10000 = 4 from cq38, hvSy]
            show _ = if gq % 10000 < 2 then dealG (vw S i) (gq % 10000) else vw S i
            rw [show gq % 10000 = gq % 10 by omega]
            split
            · rfl
            · unfold dealG; rw [if_neg (by omega)]
          exact ⟨congrArg (fun z => some (Value.int (iI z))) (show (0 : Int) = _ from eB.symm), eG, fun m h _ _ _ => hfSy m h, (congrFun (hfSy 78 (by omega)) 0).trans h780⟩
        · refine g_iconst (q := 197) B dX3_succeeds_196 rfl ?_
          refine g_goto (q := 201) B dX3_succeeds_197 (by decide) ?_
          refine g_zret B E dX3_succeeds_201 rfl (by decide) ?_
          have eB : cmB (gq / 10000) (gq % 10000) (vw S i) = 1 := by
            rw [show gq / 10000 = 4 from cq38]
            show (if (gq % 10000) < 2 then 1 else 0) = (1 : Int)
            (repeat' split) <;> omega
          have eG : vw Sy i = ccG (gq / 10000) (gq % 10000) (vw S i) := by
            rw [show gq / 10000 = 4 from cq38, hvSy]
            show _ = if gq % 10000 < 2 then dealG (vw S i) (gq % 10000) else vw S i
            rw [show gq % 10000 = gq % 10 by omega]
            split
            · rfl
            · unfold dealG; rw [if_neg (by omega)]
          exact ⟨congrArg (fun z => some (Value.int (iI z))) (show (1 : Int) = _ from eB.symm), eG, fun m h _ _ _ => hfSy m h, (congrFun (hfSy 78 (by omega)) 0).trans h780⟩
  · refine g_tsIn (q := 202) B 5 dX3_succeeds_38 cq38 ⟨by decide, by decide, by decide, by decide⟩ rfl (by decide) ?_
    refine g_iload (q := 204) B dX3_succeeds_202 rfl 1 rfl ?_
    refine g_if_ne (t := 224) (q := 207) B dX3_succeeds_204 (by decide) rfl ⟨by omega, by omega⟩ (fun cq204 => ?_) (fun cq204 => ?_)
    · refine g_iconst (q := 225) B dX3_succeeds_224 rfl ?_
      refine g_zret B E dX3_succeeds_225 rfl (by decide) ?_
      have eB : cmB (gq / 10000) (gq % 10000) (vw S i) = 0 := by
        rw [show gq / 10000 = 5 from cq38]
        show (if (gq % 10000) % 100 = 0 ∧ 0 ≤ (gq % 10000) / 100 ∧ (gq % 10000) / 100 ≤ vw S i 0 - 1 then 1 else 0) = (0 : Int)
        (repeat' split) <;> omega
      have eG : vw S i = ccG (gq / 10000) (gq % 10000) (vw S i) := by
        rw [show gq / 10000 = 5 from cq38]
        exact (if_neg (show ¬ (gq % 10000 % 100 = 0) by omega)).symm
      exact ⟨congrArg (fun z => some (Value.int (iI z))) (show (0 : Int) = _ from eB.symm), eG, fun _ _ _ _ _ => rfl, h780⟩
    · refine g_iload (q := 209) B dX3_succeeds_207 rfl 0 rfl ?_
      refine g_if_ne (t := 224) (q := 212) B dX3_succeeds_209 (by decide) rfl ⟨by omega, by omega⟩ (fun cq209 => ?_) (fun cq209 => ?_)
      · refine g_iconst (q := 225) B dX3_succeeds_224 rfl ?_
        refine g_zret B E dX3_succeeds_225 rfl (by decide) ?_
        have eB : cmB (gq / 10000) (gq % 10000) (vw S i) = 0 := by
          rw [show gq / 10000 = 5 from cq38]
          show (if (gq % 10000) % 100 = 0 ∧ 0 ≤ (gq % 10000) / 100 ∧ (gq % 10000) / 100 ≤ vw S i 0 - 1 then 1 else 0) = (0 : Int)
          (repeat' split) <;> omega
        have eG : vw S i = ccG (gq / 10000) (gq % 10000) (vw S i) := by
          rw [show gq / 10000 = 5 from cq38]
          exact (if_neg (show ¬ (gq % 10000 % 100 = 0) by omega)).symm
        exact ⟨congrArg (fun z => some (Value.int (iI z))) (show (0 : Int) = _ from eB.symm), eG, fun _ _ _ _ _ => rfl, h780⟩
      · refine g_aload_n (q := 213) B dX3_succeeds_212 rfl 4 rfl ?_
        refine g_iload_n (q := 214) B dX3_succeeds_213 rfl 2 rfl ?_
        refine g_callV (n := (4 * i)) (ty := tyX2) (q := 217) (As := [.int (iI ((gq / 100) % 100))]) (st := []) B dX3_succeeds_214 rfl (c_X2_breakAhead (l := xL X) (S := S) hi hw ((gq / 100) % 100) ⟨by omega, by omega⟩) eX2_breakAhead w874 (by decide) rfl (cw_N hi (S ((4 * i)))) cls2 rfl rfl (Nat.le_of_ble_eq_true rfl) (g_kV (fun Sy hSy => ?_))
        obtain ⟨hvSy, hfSy⟩ := hSy
        refine g_ifb_eq (t := 224) (q := 220) B dX3_succeeds_217 (by decide) rfl (fun cq217 => ?_) (fun cq217 => ?_)
        · refine g_iconst (q := 225) B dX3_succeeds_224 rfl ?_
          refine g_zret B E dX3_succeeds_225 rfl (by decide) ?_
          have eB : cmB (gq / 10000) (gq % 10000) (vw S i) = 0 := by
            rw [show gq / 10000 = 5 from cq38]
            show (if (gq % 10000) % 100 = 0 ∧ 0 ≤ (gq % 10000) / 100 ∧ (gq % 10000) / 100 ≤ vw S i 0 - 1 then 1 else 0) = (0 : Int)
            (repeat' split) <;> omega
          have eG : vw Sy i = ccG (gq / 10000) (gq % 10000) (vw S i) := by
            rw [show gq / 10000 = 5 from cq38, hvSy]
            show _ = if gq % 10000 % 100 = 0 then brkG (vw S i) (gq % 10000 / 100) else vw S i
            rw [if_pos (by omega), show gq % 10000 / 100 = gq / 100 % 100 by omega]
          exact ⟨congrArg (fun z => some (Value.int (iI z))) (show (0 : Int) = _ from eB.symm), eG, fun m h _ _ _ => hfSy m h, (congrFun (hfSy 78 (by omega)) 0).trans h780⟩
        · refine g_iconst (q := 221) B dX3_succeeds_220 rfl ?_
          refine g_goto (q := 225) B dX3_succeeds_221 (by decide) ?_
          refine g_zret B E dX3_succeeds_225 rfl (by decide) ?_
          have eB : cmB (gq / 10000) (gq % 10000) (vw S i) = 1 := by
            rw [show gq / 10000 = 5 from cq38]
            show (if (gq % 10000) % 100 = 0 ∧ 0 ≤ (gq % 10000) / 100 ∧ (gq % 10000) / 100 ≤ vw S i 0 - 1 then 1 else 0) = (1 : Int)
            (repeat' split) <;> omega
          have eG : vw Sy i = ccG (gq / 10000) (gq % 10000) (vw S i) := by
            rw [show gq / 10000 = 5 from cq38, hvSy]
            show _ = if gq % 10000 % 100 = 0 then brkG (vw S i) (gq % 10000 / 100) else vw S i
            rw [if_pos (by omega), show gq % 10000 / 100 = gq / 100 % 100 by omega]
          exact ⟨congrArg (fun z => some (Value.int (iI z))) (show (1 : Int) = _ from eB.symm), eG, fun m h _ _ _ => hfSy m h, (congrFun (hfSy 78 (by omega)) 0).trans h780⟩
  · refine g_tsIn (q := 226) B 6 dX3_succeeds_38 cq38 ⟨by decide, by decide, by decide, by decide⟩ rfl (by decide) ?_
    refine g_iload_n (q := 227) B dX3_succeeds_226 rfl 2 rfl ?_
    refine g_if_ne (t := 245) (q := 230) B dX3_succeeds_227 (by decide) rfl ⟨by omega, by omega⟩ (fun cq227 => ?_) (fun cq227 => ?_)
    · refine g_iconst (q := 246) B dX3_succeeds_245 rfl ?_
      refine g_zret B E dX3_succeeds_246 rfl (by decide) ?_
      have eB : cmB (gq / 10000) (gq % 10000) (vw S i) = 0 := by
        rw [show gq / 10000 = 6 from cq38]
        show (if (gq % 10000) < 100 ∧ gapF (vw S i) ≤ (gq % 10000) then 1 else 0) = (0 : Int)
        (repeat' split) <;> omega
      have eG : vw S i = ccG (gq / 10000) (gq % 10000) (vw S i) := by
        rw [show gq / 10000 = 6 from cq38]
        rfl
      exact ⟨congrArg (fun z => some (Value.int (iI z))) (show (0 : Int) = _ from eB.symm), eG, fun _ _ _ _ _ => rfl, h780⟩
    · refine g_aload_n (q := 231) B dX3_succeeds_230 rfl 4 rfl ?_
      refine g_callV (n := (4 * i)) (ty := tyX2) (q := 234) (As := []) (st := []) B dX3_succeeds_231 rfl (c_X2_gap (l := xL X) (S := S) hi hw) eX2_gap w875 (by decide) rfl (cw_N hi (S ((4 * i)))) cls2 rfl rfl (Nat.le_of_ble_eq_true rfl) (g_kE ?_)
      have := gapF_in hw
      refine g_iload_n (q := 235) B dX3_succeeds_234 rfl 3 rfl ?_
      refine g_bipush (q := 237) B dX3_succeeds_235 rfl (by decide) ?_
      refine g_irem (q := 238) B dX3_succeeds_237 rfl (by omega) (by omega) (by omega) (by omega) ?_
      refine g_icmp_gt (t := 245) (q := 241) B dX3_succeeds_238 (by decide) rfl ⟨by omega, by omega⟩ ⟨by omega, by omega⟩ (fun cq238 => ?_) (fun cq238 => ?_)
      · refine g_iconst (q := 246) B dX3_succeeds_245 rfl ?_
        refine g_zret B E dX3_succeeds_246 rfl (by decide) ?_
        have eB : cmB (gq / 10000) (gq % 10000) (vw S i) = 0 := by
          rw [show gq / 10000 = 6 from cq38]
          show (if (gq % 10000) < 100 ∧ gapF (vw S i) ≤ (gq % 10000) then 1 else 0) = (0 : Int)
          (repeat' split) <;> omega
        have eG : vw S i = ccG (gq / 10000) (gq % 10000) (vw S i) := by
          rw [show gq / 10000 = 6 from cq38]
          rfl
        exact ⟨congrArg (fun z => some (Value.int (iI z))) (show (0 : Int) = _ from eB.symm), eG, fun _ _ _ _ _ => rfl, h780⟩
      · refine g_iconst (q := 242) B dX3_succeeds_241 rfl ?_
        refine g_goto (q := 246) B dX3_succeeds_242 (by decide) ?_
        refine g_zret B E dX3_succeeds_246 rfl (by decide) ?_
        have eB : cmB (gq / 10000) (gq % 10000) (vw S i) = 1 := by
          rw [show gq / 10000 = 6 from cq38]
          show (if (gq % 10000) < 100 ∧ gapF (vw S i) ≤ (gq % 10000) then 1 else 0) = (1 : Int)
          (repeat' split) <;> omega
        have eG : vw S i = ccG (gq / 10000) (gq % 10000) (vw S i) := by
          rw [show gq / 10000 = 6 from cq38]
          rfl
        exact ⟨congrArg (fun z => some (Value.int (iI z))) (show (1 : Int) = _ from eB.symm), eG, fun _ _ _ _ _ => rfl, h780⟩
  · refine g_tsIn (q := 247) B 7 dX3_succeeds_38 cq38 ⟨by decide, by decide, by decide, by decide⟩ rfl (by decide) ?_
    refine g_iload_n (q := 248) B dX3_succeeds_247 rfl 2 rfl ?_
    refine g_if_ne (t := 270) (q := 251) B dX3_succeeds_248 (by decide) rfl ⟨by omega, by omega⟩ (fun cq248 => ?_) (fun cq248 => ?_)
    · refine g_iconst (q := 271) B dX3_succeeds_270 rfl ?_
      refine g_zret B E dX3_succeeds_271 rfl (by decide) ?_
      have eB : cmB (gq / 10000) (gq % 10000) (vw S i) = 0 := by
        rw [show gq / 10000 = 7 from cq38]
        show (if (gq % 10000) < 10 ∧ fewF (vw S i) ≠ -1 ∧ fewF (vw S i) ≤ (gq % 10000) then 1 else 0) = (0 : Int)
        have hdi := dw_iff (g := vw S i) (lim := gq % 10)
        (repeat' split) <;> omega
      have eG : vw S i = ccG (gq / 10000) (gq % 10000) (vw S i) := by
        rw [show gq / 10000 = 7 from cq38]
        rfl
      exact ⟨congrArg (fun z => some (Value.int (iI z))) (show (0 : Int) = _ from eB.symm), eG, fun _ _ _ _ _ => rfl, h780⟩
    · refine g_iload (q := 253) B dX3_succeeds_251 rfl 1 rfl ?_
      refine g_if_ne (t := 270) (q := 256) B dX3_succeeds_253 (by decide) rfl ⟨by omega, by omega⟩ (fun cq253 => ?_) (fun cq253 => ?_)
      · refine g_iconst (q := 271) B dX3_succeeds_270 rfl ?_
        refine g_zret B E dX3_succeeds_271 rfl (by decide) ?_
        have eB : cmB (gq / 10000) (gq % 10000) (vw S i) = 0 := by
          rw [show gq / 10000 = 7 from cq38]
          show (if (gq % 10000) < 10 ∧ fewF (vw S i) ≠ -1 ∧ fewF (vw S i) ≤ (gq % 10000) then 1 else 0) = (0 : Int)
          have hdi := dw_iff (g := vw S i) (lim := gq % 10)
          (repeat' split) <;> omega
        have eG : vw S i = ccG (gq / 10000) (gq % 10000) (vw S i) := by
          rw [show gq / 10000 = 7 from cq38]
          rfl
        exact ⟨congrArg (fun z => some (Value.int (iI z))) (show (0 : Int) = _ from eB.symm), eG, fun _ _ _ _ _ => rfl, h780⟩
      · refine g_iload (q := 258) B dX3_succeeds_256 rfl 0 rfl ?_
        refine g_aload_n (q := 259) B dX3_succeeds_258 rfl 4 rfl ?_
        refine g_aload_n (q := 260) B dX3_succeeds_259 rfl 5 rfl ?_
        refine g_callS (q := 263) (As := [.int (iI (gq % 10)), .ref (yA Y (4 * i)), .ref (yA Y 77)]) (st := []) B dX3_succeeds_260 rfl (c_X3_isDividedWithin (l := xL X) (S := S) hi hw (gq % 10) (by omega) h780) eX3_isDividedWithin w876 (by decide) rfl rfl (Nat.le_of_ble_eq_true rfl) (g_kV (fun Sz hSz => ?_))
        have hdw := dwB_in (vw S i) (gq % 10)
        refine g_if_eq (t := 270) (q := 266) B dX3_succeeds_263 (by decide) rfl ⟨by omega, by omega⟩ (fun cq263 => ?_) (fun cq263 => ?_)
        · refine g_iconst (q := 271) B dX3_succeeds_270 rfl ?_
          refine g_zret B E dX3_succeeds_271 rfl (by decide) ?_
          have eB : cmB (gq / 10000) (gq % 10000) (vw S i) = 0 := by
            rw [show gq / 10000 = 7 from cq38]
            show (if (gq % 10000) < 10 ∧ fewF (vw S i) ≠ -1 ∧ fewF (vw S i) ≤ (gq % 10000) then 1 else 0) = (0 : Int)
            have hdi := dw_iff (g := vw S i) (lim := gq % 10)
            (repeat' split) <;> omega
          have eG0 : vw Sz i = vw S i := by
            funext c
            unfold vw
            rw [hSz.1 (4 * i) (by omega) (by omega) (by omega), hSz.1 (4 * i + 1) (by omega) (by omega) (by omega), hSz.1 (4 * i + 2) (by omega) (by omega) (by omega), hSz.1 (4 * i + 3) (by omega) (by omega) (by omega)]
          have eG : vw Sz i = ccG (gq / 10000) (gq % 10000) (vw S i) := by
            rw [show gq / 10000 = 7 from cq38]
            exact eG0
          exact ⟨congrArg (fun z => some (Value.int (iI z))) (show (0 : Int) = _ from eB.symm), eG, fun m _ h7 h8 h9 => hSz.1 m h7 h8 h9, hSz.2⟩
        · refine g_iconst (q := 267) B dX3_succeeds_266 rfl ?_
          refine g_goto (q := 271) B dX3_succeeds_267 (by decide) ?_
          refine g_zret B E dX3_succeeds_271 rfl (by decide) ?_
          have eB : cmB (gq / 10000) (gq % 10000) (vw S i) = 1 := by
            rw [show gq / 10000 = 7 from cq38]
            show (if (gq % 10000) < 10 ∧ fewF (vw S i) ≠ -1 ∧ fewF (vw S i) ≤ (gq % 10000) then 1 else 0) = (1 : Int)
            have hdi := dw_iff (g := vw S i) (lim := gq % 10)
            (repeat' split) <;> omega
          have eG0 : vw Sz i = vw S i := by
            funext c
            unfold vw
            rw [hSz.1 (4 * i) (by omega) (by omega) (by omega), hSz.1 (4 * i + 1) (by omega) (by omega) (by omega), hSz.1 (4 * i + 2) (by omega) (by omega) (by omega), hSz.1 (4 * i + 3) (by omega) (by omega) (by omega)]
          have eG : vw Sz i = ccG (gq / 10000) (gq % 10000) (vw S i) := by
            rw [show gq / 10000 = 7 from cq38]
            exact eG0
          exact ⟨congrArg (fun z => some (Value.int (iI z))) (show (1 : Int) = _ from eB.symm), eG, fun m _ h7 h8 h9 => hSz.1 m h7 h8 h9, hSz.2⟩
  · refine g_tsIn (q := 272) B 8 dX3_succeeds_38 cq38 ⟨by decide, by decide, by decide, by decide⟩ rfl (by decide) ?_
    refine g_iload (q := 274) B dX3_succeeds_272 rfl 1 rfl ?_
    refine g_if_ne (t := 308) (q := 277) B dX3_succeeds_274 (by decide) rfl ⟨by omega, by omega⟩ (fun cq274 => ?_) (fun cq274 => ?_)
    · refine g_iconst (q := 309) B dX3_succeeds_308 rfl ?_
      refine g_zret B E dX3_succeeds_309 rfl (by decide) ?_
      have eB : cmB (gq / 10000) (gq % 10000) (vw S i) = 0 := by
        rw [show gq / 10000 = 8 from cq38]
        show (if (gq % 10000) / 10 % 10 = 0 ∧ (gq % 10000) % 10 < 3 ∧ (0 ≤ (gq % 10000) / 100 ∧ (gq % 10000) / 100 ≤ vw S i 0 - 1) ∧ vw S i (38 + (gq % 10000) / 100) = (if (gq % 10000) % 10 = 2 then -1 else (gq % 10000) % 10) then 1 else 0) = (0 : Int)
        have e38 : 0 ≤ gq / 100 % 100 → gq / 100 % 100 < 16 → vw S i (38 + (gq % 10000) / 100) = S (4 * i + 3) (gq / 100 % 100) := fun a b => by rw [show (gq % 10000) / 100 = gq / 100 % 100 by omega]; exact vw_o S i a b
        (repeat' split) <;> omega
      have eG : vw S i = ccG (gq / 10000) (gq % 10000) (vw S i) := by
        rw [show gq / 10000 = 8 from cq38]
        rfl
      exact ⟨congrArg (fun z => some (Value.int (iI z))) (show (0 : Int) = _ from eB.symm), eG, fun _ _ _ _ _ => rfl, h780⟩
    · refine g_iload (q := 279) B dX3_succeeds_277 rfl 0 rfl ?_
      refine g_iconst (q := 280) B dX3_succeeds_279 rfl ?_
      refine g_icmp_gt (t := 308) (q := 283) B dX3_succeeds_280 (by decide) rfl ⟨by omega, by omega⟩ ⟨by omega, by omega⟩ (fun cq280 => ?_) (fun cq280 => ?_)
      · refine g_iconst (q := 309) B dX3_succeeds_308 rfl ?_
        refine g_zret B E dX3_succeeds_309 rfl (by decide) ?_
        have eB : cmB (gq / 10000) (gq % 10000) (vw S i) = 0 := by
          rw [show gq / 10000 = 8 from cq38]
          show (if (gq % 10000) / 10 % 10 = 0 ∧ (gq % 10000) % 10 < 3 ∧ (0 ≤ (gq % 10000) / 100 ∧ (gq % 10000) / 100 ≤ vw S i 0 - 1) ∧ vw S i (38 + (gq % 10000) / 100) = (if (gq % 10000) % 10 = 2 then -1 else (gq % 10000) % 10) then 1 else 0) = (0 : Int)
          have e38 : 0 ≤ gq / 100 % 100 → gq / 100 % 100 < 16 → vw S i (38 + (gq % 10000) / 100) = S (4 * i + 3) (gq / 100 % 100) := fun a b => by rw [show (gq % 10000) / 100 = gq / 100 % 100 by omega]; exact vw_o S i a b
          (repeat' split) <;> omega
        have eG : vw S i = ccG (gq / 10000) (gq % 10000) (vw S i) := by
          rw [show gq / 10000 = 8 from cq38]
          rfl
        exact ⟨congrArg (fun z => some (Value.int (iI z))) (show (0 : Int) = _ from eB.symm), eG, fun _ _ _ _ _ => rfl, h780⟩
      · refine g_aload_n (q := 284) B dX3_succeeds_283 rfl 4 rfl ?_
        refine g_iload_n (q := 285) B dX3_succeeds_284 rfl 2 rfl ?_
        refine g_callV (n := (4 * i)) (ty := tyX2) (q := 288) (As := [.int (iI ((gq / 100) % 100))]) (st := []) B dX3_succeeds_285 rfl (c_X2_hasPlace (l := xL X) (S := S) hi hw ((gq / 100) % 100) ⟨by omega, by omega⟩) eX2_hasPlace w881 (by decide) rfl (cw_N hi (S ((4 * i)))) cls2 rfl rfl (Nat.le_of_ble_eq_true rfl) (g_kE ?_)
        refine g_ifb_eq (t := 308) (q := 291) B dX3_succeeds_288 (by decide) rfl (fun cq288 => ?_) (fun cq288 => ?_)
        · refine g_iconst (q := 309) B dX3_succeeds_308 rfl ?_
          refine g_zret B E dX3_succeeds_309 rfl (by decide) ?_
          have eB : cmB (gq / 10000) (gq % 10000) (vw S i) = 0 := by
            rw [show gq / 10000 = 8 from cq38]
            show (if (gq % 10000) / 10 % 10 = 0 ∧ (gq % 10000) % 10 < 3 ∧ (0 ≤ (gq % 10000) / 100 ∧ (gq % 10000) / 100 ≤ vw S i 0 - 1) ∧ vw S i (38 + (gq % 10000) / 100) = (if (gq % 10000) % 10 = 2 then -1 else (gq % 10000) % 10) then 1 else 0) = (0 : Int)
            have e38 : 0 ≤ gq / 100 % 100 → gq / 100 % 100 < 16 → vw S i (38 + (gq % 10000) / 100) = S (4 * i + 3) (gq / 100 % 100) := fun a b => by rw [show (gq % 10000) / 100 = gq / 100 % 100 by omega]; exact vw_o S i a b
            (repeat' split) <;> omega
          have eG : vw S i = ccG (gq / 10000) (gq % 10000) (vw S i) := by
            rw [show gq / 10000 = 8 from cq38]
            rfl
          exact ⟨congrArg (fun z => some (Value.int (iI z))) (show (0 : Int) = _ from eB.symm), eG, fun _ _ _ _ _ => rfl, h780⟩
        · refine g_aload_n (q := 292) B dX3_succeeds_291 rfl 4 rfl ?_
          refine g_iload_n (q := 293) B dX3_succeeds_292 rfl 2 rfl ?_
          refine g_callV (n := (4 * i)) (ty := tyX2) (q := 296) (As := [.int (iI ((gq / 100) % 100))]) (st := []) B dX3_succeeds_293 rfl (c_X2_ownerAt (l := xL X) (S := S) hi ((gq / 100) % 100) (by omega) (by omega)) eX2_ownerAt w882 (by decide) rfl (cw_N hi (S ((4 * i)))) cls2 rfl rfl (Nat.le_of_ble_eq_true rfl) (g_kE ?_)
          have ho := how (gq / 100 % 100) (by omega) (by omega)
          refine g_iload (q := 298) B dX3_succeeds_296 rfl 0 rfl ?_
          refine g_callSN (q := 301) (As := [.int (iI (gq % 10))]) (st := [.int (iI (S (4 * i + 3) ((gq / 100) % 100)))]) B dX3_succeeds_298 rfl (c_X7_ownerFor (l := xL X) (S := S) (gq % 10) ⟨by omega, by omega⟩) eX7_ownerFor w870 (by decide) rfl rfl (Nat.le_of_ble_eq_true rfl) (g_kE ?_)
          refine g_icmp_ne (t := 308) (q := 304) B dX3_succeeds_301 (by decide) rfl ⟨by omega, by omega⟩ ⟨by omega, by omega⟩ (fun cq301 => ?_) (fun cq301 => ?_)
          · refine g_iconst (q := 309) B dX3_succeeds_308 rfl ?_
            refine g_zret B E dX3_succeeds_309 rfl (by decide) ?_
            have eB : cmB (gq / 10000) (gq % 10000) (vw S i) = 0 := by
              rw [show gq / 10000 = 8 from cq38]
              show (if (gq % 10000) / 10 % 10 = 0 ∧ (gq % 10000) % 10 < 3 ∧ (0 ≤ (gq % 10000) / 100 ∧ (gq % 10000) / 100 ≤ vw S i 0 - 1) ∧ vw S i (38 + (gq % 10000) / 100) = (if (gq % 10000) % 10 = 2 then -1 else (gq % 10000) % 10) then 1 else 0) = (0 : Int)
              have e38 : 0 ≤ gq / 100 % 100 → gq / 100 % 100 < 16 → vw S i (38 + (gq % 10000) / 100) = S (4 * i + 3) (gq / 100 % 100) := fun a b => by rw [show (gq % 10000) / 100 = gq / 100 % 100 by omega]; exact vw_o S i a b
              (repeat' split) <;> omega
            have eG : vw S i = ccG (gq / 10000) (gq % 10000) (vw S i) := by
              rw [show gq / 10000 = 8 from cq38]
              rfl
            exact ⟨congrArg (fun z => some (Value.int (iI z))) (show (0 : Int) = _ from eB.symm), eG, fun _ _ _ _ _ => rfl, h780⟩
          · refine g_iconst (q := 305) B dX3_succeeds_304 rfl ?_
            refine g_goto (q := 309) B dX3_succeeds_305 (by decide) ?_
            refine g_zret B E dX3_succeeds_309 rfl (by decide) ?_
            have eB : cmB (gq / 10000) (gq % 10000) (vw S i) = 1 := by
              rw [show gq / 10000 = 8 from cq38]
              show (if (gq % 10000) / 10 % 10 = 0 ∧ (gq % 10000) % 10 < 3 ∧ (0 ≤ (gq % 10000) / 100 ∧ (gq % 10000) / 100 ≤ vw S i 0 - 1) ∧ vw S i (38 + (gq % 10000) / 100) = (if (gq % 10000) % 10 = 2 then -1 else (gq % 10000) % 10) then 1 else 0) = (1 : Int)
              have e38 : 0 ≤ gq / 100 % 100 → gq / 100 % 100 < 16 → vw S i (38 + (gq % 10000) / 100) = S (4 * i + 3) (gq / 100 % 100) := fun a b => by rw [show (gq % 10000) / 100 = gq / 100 % 100 by omega]; exact vw_o S i a b
              (repeat' split) <;> omega
            have eG : vw S i = ccG (gq / 10000) (gq % 10000) (vw S i) := by
              rw [show gq / 10000 = 8 from cq38]
              rfl
            exact ⟨congrArg (fun z => some (Value.int (iI z))) (show (1 : Int) = _ from eB.symm), eG, fun _ _ _ _ _ => rfl, h780⟩
  · refine g_tsIn (q := 310) B 9 dX3_succeeds_38 cq38 ⟨by decide, by decide, by decide, by decide⟩ rfl (by decide) ?_
    refine g_iload_n (q := 311) B dX3_succeeds_310 rfl 2 rfl ?_
    refine g_bipush (q := 313) B dX3_succeeds_311 rfl (by decide) ?_
    refine g_idiv (q := 314) B dX3_succeeds_313 rfl (by omega) (by omega) (by omega) (by omega) ?_
    refine g_callSN (q := 317) (As := [.int (iI (((gq / 100) % 100) / 10))]) (st := []) B dX3_succeeds_314 rfl (c_X7_isSister (l := xL X) (S := S) (((gq / 100) % 100) / 10) ⟨by omega, by omega⟩) eX7_isSister w883 (by decide) rfl rfl (Nat.le_of_ble_eq_true rfl) (g_kE ?_)
    refine g_ifb_eq (t := 353) (q := 320) B dX3_succeeds_317 (by decide) rfl (fun cq317 => ?_) (fun cq317 => ?_)
    · refine g_iconst (q := 354) B dX3_succeeds_353 rfl ?_
      refine g_zret B E dX3_succeeds_354 rfl (by decide) ?_
      have eB : cmB (gq / 10000) (gq % 10000) (vw S i) = 0 := by
        rw [show gq / 10000 = 9 from cq38]
        show (if (gq % 10000) / 1000 < 2 ∧ (gq % 10000) / 100 % 10 < 4 ∧ (gq % 10000) % 100 ≤ hasF (vw S i) ((gq % 10000) / 1000) ((gq % 10000) / 100 % 10) then 1 else 0) = (0 : Int)
        rw [show (gq % 10000) / 1000 = gq / 100 % 100 / 10 by omega, show (gq % 10000) / 100 % 10 = gq / 100 % 100 % 10 by omega]
        (repeat' split) <;> omega
      have eG : vw S i = ccG (gq / 10000) (gq % 10000) (vw S i) := by
        rw [show gq / 10000 = 9 from cq38]
        rfl
      exact ⟨congrArg (fun z => some (Value.int (iI z))) (show (0 : Int) = _ from eB.symm), eG, fun _ _ _ _ _ => rfl, h780⟩
    · refine g_iload_n (q := 321) B dX3_succeeds_320 rfl 2 rfl ?_
      refine g_bipush (q := 323) B dX3_succeeds_321 rfl (by decide) ?_
      refine g_irem (q := 324) B dX3_succeeds_323 rfl (by omega) (by omega) (by omega) (by omega) ?_
      refine g_callSN (q := 327) (As := [.int (iI (((gq / 100) % 100) % 10))]) (st := []) B dX3_succeeds_324 rfl (c_X7_isKind (l := xL X) (S := S) (((gq / 100) % 100) % 10) ⟨by omega, by omega⟩) eX7_isKind w884 (by decide) rfl rfl (Nat.le_of_ble_eq_true rfl) (g_kE ?_)
      refine g_ifb_eq (t := 353) (q := 330) B dX3_succeeds_327 (by decide) rfl (fun cq327 => ?_) (fun cq327 => ?_)
      · refine g_iconst (q := 354) B dX3_succeeds_353 rfl ?_
        refine g_zret B E dX3_succeeds_354 rfl (by decide) ?_
        have eB : cmB (gq / 10000) (gq % 10000) (vw S i) = 0 := by
          rw [show gq / 10000 = 9 from cq38]
          show (if (gq % 10000) / 1000 < 2 ∧ (gq % 10000) / 100 % 10 < 4 ∧ (gq % 10000) % 100 ≤ hasF (vw S i) ((gq % 10000) / 1000) ((gq % 10000) / 100 % 10) then 1 else 0) = (0 : Int)
          rw [show (gq % 10000) / 1000 = gq / 100 % 100 / 10 by omega, show (gq % 10000) / 100 % 10 = gq / 100 % 100 % 10 by omega]
          (repeat' split) <;> omega
        have eG : vw S i = ccG (gq / 10000) (gq % 10000) (vw S i) := by
          rw [show gq / 10000 = 9 from cq38]
          rfl
        exact ⟨congrArg (fun z => some (Value.int (iI z))) (show (0 : Int) = _ from eB.symm), eG, fun _ _ _ _ _ => rfl, h780⟩
      · refine g_aload_n (q := 331) B dX3_succeeds_330 rfl 4 rfl ?_
        refine g_iload_n (q := 332) B dX3_succeeds_331 rfl 2 rfl ?_
        refine g_bipush (q := 334) B dX3_succeeds_332 rfl (by decide) ?_
        refine g_idiv (q := 335) B dX3_succeeds_334 rfl (by omega) (by omega) (by omega) (by omega) ?_
        refine g_iload_n (q := 336) B dX3_succeeds_335 rfl 2 rfl ?_
        refine g_bipush (q := 338) B dX3_succeeds_336 rfl (by decide) ?_
        refine g_irem (q := 339) B dX3_succeeds_338 rfl (by omega) (by omega) (by omega) (by omega) ?_
        refine g_callV (n := (4 * i)) (ty := tyX2) (q := 342) (As := [.int (iI (((gq / 100) % 100) / 10)), .int (iI (((gq / 100) % 100) % 10))]) (st := []) B dX3_succeeds_339 rfl (c_X2_holding (l := xL X) (S := S) hi hw (((gq / 100) % 100) / 10) (((gq / 100) % 100) % 10) ⟨by omega, by omega⟩ ⟨by omega, by omega⟩) eX2_holding w885 (by decide) rfl (cw_N hi (S ((4 * i)))) cls2 rfl rfl (Nat.le_of_ble_eq_true rfl) (g_kE ?_)
        have := hasF_in hw (((gq / 100) % 100) / 10) (((gq / 100) % 100) % 10)
        refine g_iload_n (q := 343) B dX3_succeeds_342 rfl 3 rfl ?_
        refine g_bipush (q := 345) B dX3_succeeds_343 rfl (by decide) ?_
        refine g_irem (q := 346) B dX3_succeeds_345 rfl (by omega) (by omega) (by omega) (by omega) ?_
        refine g_icmp_lt (t := 353) (q := 349) B dX3_succeeds_346 (by decide) rfl ⟨by omega, by omega⟩ ⟨by omega, by omega⟩ (fun cq346 => ?_) (fun cq346 => ?_)
        · refine g_iconst (q := 354) B dX3_succeeds_353 rfl ?_
          refine g_zret B E dX3_succeeds_354 rfl (by decide) ?_
          have eB : cmB (gq / 10000) (gq % 10000) (vw S i) = 0 := by
            rw [show gq / 10000 = 9 from cq38]
            show (if (gq % 10000) / 1000 < 2 ∧ (gq % 10000) / 100 % 10 < 4 ∧ (gq % 10000) % 100 ≤ hasF (vw S i) ((gq % 10000) / 1000) ((gq % 10000) / 100 % 10) then 1 else 0) = (0 : Int)
            rw [show (gq % 10000) / 1000 = gq / 100 % 100 / 10 by omega, show (gq % 10000) / 100 % 10 = gq / 100 % 100 % 10 by omega]
            (repeat' split) <;> omega
          have eG : vw S i = ccG (gq / 10000) (gq % 10000) (vw S i) := by
            rw [show gq / 10000 = 9 from cq38]
            rfl
          exact ⟨congrArg (fun z => some (Value.int (iI z))) (show (0 : Int) = _ from eB.symm), eG, fun _ _ _ _ _ => rfl, h780⟩
        · refine g_iconst (q := 350) B dX3_succeeds_349 rfl ?_
          refine g_goto (q := 354) B dX3_succeeds_350 (by decide) ?_
          refine g_zret B E dX3_succeeds_354 rfl (by decide) ?_
          have eB : cmB (gq / 10000) (gq % 10000) (vw S i) = 1 := by
            rw [show gq / 10000 = 9 from cq38]
            show (if (gq % 10000) / 1000 < 2 ∧ (gq % 10000) / 100 % 10 < 4 ∧ (gq % 10000) % 100 ≤ hasF (vw S i) ((gq % 10000) / 1000) ((gq % 10000) / 100 % 10) then 1 else 0) = (1 : Int)
            rw [show (gq % 10000) / 1000 = gq / 100 % 100 / 10 by omega, show (gq % 10000) / 100 % 10 = gq / 100 % 100 % 10 by omega]
            (repeat' split) <;> omega
          have eG : vw S i = ccG (gq / 10000) (gq % 10000) (vw S i) := by
            rw [show gq / 10000 = 9 from cq38]
            rfl
          exact ⟨congrArg (fun z => some (Value.int (iI z))) (show (1 : Int) = _ from eB.symm), eG, fun _ _ _ _ _ => rfl, h780⟩
  · refine g_tsOut (q := 355) B dX3_succeeds_38 (by omega) ⟨by omega, by omega⟩ (by decide) ?_
    refine g_iconst (q := 356) B dX3_succeeds_355 rfl ?_
    refine g_zret B E dX3_succeeds_356 rfl (by decide) ?_
    have eB : cmB (gq / 10000) (gq % 10000) (vw S i) = 0 := by rw [show gq / 10000 = 0 by omega]; rfl
    have eG : vw S i = ccG (gq / 10000) (gq % 10000) (vw S i) := by
      rw [show gq / 10000 = 0 by omega]
      rfl
    exact ⟨congrArg (fun z => some (Value.int (iI z))) (show (0 : Int) = _ from eB.symm), eG, fun _ _ _ _ _ => rfl, h780⟩
set_option maxHeartbeats 4000000 in
theorem c_X7_fewestCuts {Y : gY} {l : Launch} {S : SS} (hw : wf (vw S 0)) (h780 : S 78 0 = 0) : gM Y l mX7_fewestCuts S [.ref (yA Y 72)] (pV (.int (iI (fewF (vw S 0)))) (fun S' => wd S' (vw S 0) ∧ (∀ m : Nat, m ≠ 77 → m ≠ 78 → m ≠ 79 → S' m = S m) ∧ (0 ≤ fewF (vw S 0) → ∀ c : Nat, (c : Int) < fewF (vw S 0) → S' 79 c = wyF (vw S 0) c))) := by
  refine gM_of (by decide) (Nat.le_of_ble_eq_true rfl) ?_
  intro X hXl B E
  obtain ⟨⟨hn0, hn16⟩, ⟨hb0, hb1⟩, ⟨hm0, hm1⟩, ⟨hs0, hs1⟩, ⟨hc0, hc1⟩, hct, hkw, how, hun⟩ := wfS hw
  have euq : uq (vw S 0) 1 (S (4 * 0) 1) = vw S 0 := uq_1 (vw S 0)
  show gW Y X S 0 [(0, .ref (yA Y 72))] []
  refine g_aload_n (q := 1) B dX7_fewestCuts_0 rfl 0 rfl ?_
  refine g_get (n := 72) (ty := tyX7) (q := 4) (v := .ref (yA Y 77)) B dX7_fewestCuts_1 rfl rfl rfl cls5 4 (by decide) w161 rfl ?_
  refine g_aload_n (q := 5) B dX7_fewestCuts_4 rfl 0 rfl ?_
  refine g_get (n := 72) (ty := tyX7) (q := 8) (v := .ref (yA Y (4 * 0))) B dX7_fewestCuts_5 rfl rfl rfl cls5 1 (by decide) w158 rfl ?_
  refine g_aload_n (q := 9) B dX7_fewestCuts_8 rfl 0 rfl ?_
  refine g_get (n := 72) (ty := tyX7) (q := 12) (v := .ref (yA Y (4 * 0))) B dX7_fewestCuts_9 rfl rfl rfl cls5 1 (by decide) w158 rfl ?_
  refine g_get (n := (4 * 0)) (ty := tyX2) (q := 15) (v := .int (iI (S ((4 * 0)) 1))) B dX7_fewestCuts_12 rfl rfl (cw_N (by decide) (S ((4 * 0)))) cls2 1 (by decide) w70 rfl ?_
  refine g_callV (n := 77) (ty := tyX0) (q := 18) (As := [.ref (yA Y (4 * 0)), .int (iI (S ((4 * 0)) 1))]) (st := []) B dX7_fewestCuts_15 rfl (c_X0_weigh (l := xL X) (S := S) (by decide) hw (S ((4 * 0)) 1) (by omega) (by omega) h780) eX0_weigh w697 (by decide) rfl rfl cls0 rfl rfl (Nat.le_of_ble_eq_true rfl) (g_k0 (fun Sy hSy => ?_))
  obtain ⟨hdSy, hfSy⟩ := hSy
  rw [euq] at hdSy
  refine g_aload_n (q := 19) B dX7_fewestCuts_18 rfl 0 rfl ?_
  refine g_get (n := 72) (ty := tyX7) (q := 22) (v := .ref (yA Y 77)) B dX7_fewestCuts_19 rfl rfl rfl cls5 4 (by decide) w161 rfl ?_
  refine g_bipush (q := 24) B dX7_fewestCuts_22 rfl (by decide) ?_
  refine g_callV (n := 77) (ty := tyX0) (q := 27) (As := [.int (iI 6)]) (st := []) B dX7_fewestCuts_24 rfl (c_X0_fewestByCuts (l := xL X) (S := Sy) hdSy hw 6 (by omega)) eX0_fewestByCuts w703 (by decide) rfl rfl cls0 rfl rfl (Nat.le_of_ble_eq_true rfl) (g_kV (fun Sz hSz => ?_))
  obtain ⟨hcSz, hySz⟩ := hSz
  have hfb := fbV_in (vw S 0) 6
  refine g_iret B E dX7_fewestCuts_27 ?_
  rw [few_lim] at hySz
  refine ⟨by rw [few_lim], ?_, fun m h7 h8 h9 => (hcSz m h9).trans (hfSy m h7 h8), hySz⟩
  unfold wd at hdSy ⊢
  rw [hcSz 77 (by decide), hcSz 78 (by decide)]
  exact hdSy
set_option maxHeartbeats 4000000 in
theorem c_X7_gapWith {Y : gY} {l : Launch} {S : SS} (hw : wf (vw S 0)) (r o : Int) (hr : rI r) (ho : rI o) : gM Y l mX7_gapWith S [.ref (yA Y 72), .int (iI r), .int (iI o)] (pV (.int (iI (gapF (giveG (vw S 0) r o)))) (fun S' => fr S S' 1)) := by
  refine gM_of (by decide) (Nat.le_of_ble_eq_true rfl) ?_
  intro X hXl B E
  obtain ⟨hr0, hr1⟩ := hr
  obtain ⟨ho0, ho1⟩ := ho
  show gW Y X S 0 [(0, .ref (yA Y 72)), (1, .int (iI r)), (2, .int (iI o))] []
  refine g_aload_n (q := 1) B dX7_gapWith_0 rfl 0 rfl ?_
  refine g_get (n := 72) (ty := tyX7) (q := 4) (v := .ref (yA Y (4 * 1))) B dX7_gapWith_1 rfl rfl rfl cls5 2 (by decide) w159 rfl ?_
  refine g_aload_n (q := 5) B dX7_gapWith_4 rfl 0 rfl ?_
  refine g_get (n := 72) (ty := tyX7) (q := 8) (v := .ref (yA Y (4 * 0))) B dX7_gapWith_5 rfl rfl rfl cls5 1 (by decide) w158 rfl ?_
  refine g_callV (n := (4 * 1)) (ty := tyX2) (q := 11) (As := [.ref (yA Y (4 * 0))]) (st := []) B dX7_gapWith_8 rfl (c_X2_becomeLike (l := xL X) (S := S) (by decide) (by decide) (by decide)) eX2_becomeLike w819 (by decide) rfl (cw_N (by decide) (S ((4 * 1)))) cls2 rfl rfl (Nat.le_of_ble_eq_true rfl) (g_k0 (fun Sy hSy => ?_))
  obtain ⟨hvSy, hfSy⟩ := hSy
  have hwy : wf (vw Sy 1) := by rw [hvSy]; exact hw
  refine g_aload_n (q := 12) B dX7_gapWith_11 rfl 0 rfl ?_
  refine g_get (n := 72) (ty := tyX7) (q := 15) (v := .ref (yA Y (4 * 1))) B dX7_gapWith_12 rfl rfl rfl cls5 2 (by decide) w159 rfl ?_
  refine g_iload_n (q := 16) B dX7_gapWith_15 rfl 1 rfl ?_
  refine g_iload_n (q := 17) B dX7_gapWith_16 rfl 2 rfl ?_
  refine g_callV (n := (4 * 1)) (ty := tyX2) (q := 20) (As := [.int (iI r), .int (iI o)]) (st := []) B dX7_gapWith_17 rfl (c_X2_giveRun (l := xL X) (S := Sy) (by decide) (wf.q hwy) r o ⟨by omega, by omega⟩ ⟨by omega, by omega⟩) eX2_giveRun w667 (by decide) rfl (cw_N (by decide) (Sy ((4 * 1)))) cls2 rfl rfl (Nat.le_of_ble_eq_true rfl) (g_kV (fun Sz hSz => ?_))
  obtain ⟨hvSz, hfSz⟩ := hSz
  have hwz : wf (vw Sz 1) := by rw [hvSz]; exact wf_giveG hwy _ _
  refine g_pop (q := 21) B dX7_gapWith_20 rfl rfl ?_
  refine g_aload_n (q := 22) B dX7_gapWith_21 rfl 0 rfl ?_
  refine g_get (n := 72) (ty := tyX7) (q := 25) (v := .ref (yA Y (4 * 1))) B dX7_gapWith_22 rfl rfl rfl cls5 2 (by decide) w159 rfl ?_
  refine g_callV (n := (4 * 1)) (ty := tyX2) (q := 28) (As := []) (st := []) B dX7_gapWith_25 rfl (c_X2_gap (l := xL X) (S := Sz) (by decide) hwz) eX2_gap w511 (by decide) rfl (cw_N (by decide) (Sz ((4 * 1)))) cls2 rfl rfl (Nat.le_of_ble_eq_true rfl) (g_kE ?_)
  have := gapF_in hwz
  refine g_iret B E dX7_gapWith_28 ?_
  exact ⟨by rw [hvSz, hvSy], hfSy.tr hfSz⟩
