set_option maxHeartbeats 4000000 in
theorem c_X0_weigh {Y : gY} {l : Launch} {S : SS} {i : Nat} (hi : i < 18) (hw : wf (vw S i)) (b : Int) (b0 : 0 ≤ b) (b1 : b < S (4 * i) 0 ∨ (S (4 * i) 0 = 0 ∧ b = 0)) (h0 : S 78 0 = 0) : gM Y l mX0_weigh S [.ref (yA Y 77), .ref (yA Y (4 * i)), .int (iI b)] (p0 (fun S' => wd S' (uq (vw S i) 1 b) ∧ fd S S')) := by
  refine gM_of (by decide) (Nat.le_of_ble_eq_true rfl) ?_
  intro X hXl B E
  have hw2 := hw
  obtain ⟨⟨hn0, hn16⟩, ⟨hb0, hb1⟩, ⟨hm0, hm1⟩, ⟨hs0, hs1⟩, ⟨hc0, hc1⟩, hct, hkw, how, hun⟩ := wfS hw
  have ew : ∀ c : Int, c ≠ 1 → uq (vw S i) 1 b c = vw S i c := fun c hc => uq_ne _ _ hc
  have e0 : uq (vw S i) 1 b 0 = S (4 * i) 0 := ew 0 (by decide)
  have hw1 : wf (uq (vw S i) 1 b) := wf_brk1 hw2 b0 b1
  show gW Y X S 0 [(0, .ref (yA Y 77)), (1, .ref (yA Y (4 * i))), (2, .int (iI b))] []
  have lp20 : ∀ (fu : Nat) (qw : Nat) (Sx : SS) (x3 x5 : Int) , x3 = (pkF (fun k => ahF (uq (vw S i) 1 b) k qw)) → x5 = ((qw : Int)) → (qw : Int) ≤ S (4 * i) 0 → Sx 77 0 = (qw : Int) → Sx 77 1 = 0 → (∀ p : Nat, p ≤ qw → Sx 78 p = pkF (fun k => ahF (uq (vw S i) 1 b) k p)) → fd S Sx → 17 - qw < fu → gW Y X Sx 20 [(0, .ref (yA Y 77)), (1, .ref (yA Y (4 * i))), (2, .int (iI b)), (3, .long (lI x3)), (5, .int (iI x5))] [] := by
    intro fu
    induction fu with
    | zero =>
      intro qw Sx x3 x5 e_x3 e_x5 hq hx0 hx1 hA hf hfu
      exact absurd hfu (Nat.not_lt_zero _)
    | succ fu ih =>
      intro qw Sx x3 x5 e_x3 e_x5 hq hx0 hx1 hA hf hfu
      subst e_x3
      subst e_x5
      have ev := fd_vw hf hi
      have hwx : wf (vw Sx i) := by rw [ev]; exact hw2
      have ex0 : Sx (4 * i) 0 = S (4 * i) 0 := congrFun (hf (4 * i) (by omega) (by omega)) 0
      have hpR := pz_in (Int.le_refl _) (ahF_R hw1 qw (by rw [e0]; exact hq))
      refine g_iload (q := 22) B dX0_weigh_20 rfl 4 rfl ?_
      refine g_aload_n (q := 23) B dX0_weigh_22 rfl 1 rfl ?_
      refine g_get (n := (4 * i)) (ty := tyX2) (q := 26) (v := .int (iI (Sx ((4 * i)) 0))) B dX0_weigh_23 rfl rfl (cw_N hi (Sx ((4 * i)))) cls2 0 (by decide) w66 rfl ?_
      refine g_icmp_ge (t := 114) (q := 29) B dX0_weigh_26 (by decide) rfl ⟨by omega, by omega⟩ ⟨by omega, by omega⟩ (fun cq26 => ?_) (fun cq26 => ?_)
      · refine g_aload_n (q := 115) B dX0_weigh_114 rfl 0 rfl ?_
        refine g_lload_n (q := 116) B dX0_weigh_115 rfl 3 rfl ?_
        refine g_iconst (q := 117) B dX0_weigh_116 rfl ?_
        refine g_lushr (v := (lI (pkF (fun k => ahF (uq (vw S i) 1 b) k qw) / 2))) (q := 118) B dX0_weigh_117 rfl (lI_ushrk (k := 1) (by omega) (by omega) (by decide) (by decide)) ?_
        refine g_put (n := 77) (ty := tyX0) (q := 121) B dX0_weigh_118 rfl rfl rfl cls0 3 (by decide) w130 rfl rfl rfl (Nat.le_of_ble_eq_true rfl) ((uq (Sx 77) 1 (pkF (fun k => ahF (uq (vw S i) 1 b) k qw) / 2))) rfl ?_
        refine g_vret B E dX0_weigh_121 ?_
        have hqn : (uq (vw S i) 1 b 0).toNat = qw := by rw [e0]; omega
        refine ⟨rfl, ⟨?_, ?_, fun p hp => ?_⟩, fun m h7 h8 => ?_⟩
        · show Sx 77 0 = _
          rw [hx0, e0]; omega
        · rw [hqn]; rfl
        · rw [us_a (show 78 ≠ 77 by decide)]
          exact hA p (by rw [e0] at hp; omega)
        · rw [us_a h7]; exact hf m h7 h8
      · refine g_iload (q := 31) B dX0_weigh_29 rfl 4 rfl ?_
        refine g_iconst (q := 32) B dX0_weigh_31 rfl ?_
        refine g_iadd (q := 33) B dX0_weigh_32 rfl ?_
        refine g_aload_n (q := 34) B dX0_weigh_33 rfl 0 rfl ?_
        refine g_get (n := 77) (ty := tyX0) (q := 37) (v := .ref (yA Y 78)) B dX0_weigh_34 rfl rfl rfl cls0 0 (by decide) w127 rfl ?_
        refine g_alen (n := 78) (q := 38) B dX0_weigh_37 rfl rfl rfl 2 rfl (z := 17) rfl ?_
        refine g_icmp_ge (t := 114) (q := 41) B dX0_weigh_38 (by decide) rfl ⟨by omega, by omega⟩ ⟨by omega, by omega⟩ (fun cq38 => ?_) (fun cq38 => ?_)
        · exact absurd cq38 (by omega)
        · refine g_iload_n (q := 42) B dX0_weigh_41 rfl 2 rfl ?_
          refine g_iload (q := 44) B dX0_weigh_42 rfl 4 rfl ?_
          refine g_iadd (q := 45) B dX0_weigh_44 rfl ?_
          refine g_aload_n (q := 46) B dX0_weigh_45 rfl 1 rfl ?_
          refine g_get (n := (4 * i)) (ty := tyX2) (q := 49) (v := .int (iI (Sx ((4 * i)) 0))) B dX0_weigh_46 rfl rfl (cw_N hi (Sx ((4 * i)))) cls2 0 (by decide) w66 rfl ?_
          refine g_icmp_ge (t := 59) (q := 52) B dX0_weigh_49 (by decide) rfl ⟨by omega, by omega⟩ ⟨by omega, by omega⟩ (fun cq49 => ?_) (fun cq49 => ?_)
          · refine g_iload_n (q := 60) B dX0_weigh_59 rfl 2 rfl ?_
            refine g_iload (q := 62) B dX0_weigh_60 rfl 4 rfl ?_
            refine g_iadd (q := 63) B dX0_weigh_62 rfl ?_
            refine g_aload_n (q := 64) B dX0_weigh_63 rfl 1 rfl ?_
            refine g_get (n := (4 * i)) (ty := tyX2) (q := 67) (v := .int (iI (Sx ((4 * i)) 0))) B dX0_weigh_64 rfl rfl (cw_N hi (Sx ((4 * i)))) cls2 0 (by decide) w66 rfl ?_
            refine g_isub (q := 68) B dX0_weigh_67 rfl ?_
            refine g_istore (q := 70) B dX0_weigh_68 rfl (by decide) (L' := [(6, .int (iI ((b + ((qw : Int))) - (Sx ((4 * i)) 0)))), (0, .ref (yA Y 77)), (1, .ref (yA Y (4 * i))), (2, .int (iI b)), (3, .long (lI (pkF (fun k => ahF (uq (vw S i) 1 b) k qw)))), (5, .int (iI ((qw : Int))))]) rfl ?_
            refine g_lload_n (q := 71) B dX0_weigh_70 rfl 4 rfl ?_
            refine g_aload_n (q := 72) B dX0_weigh_71 rfl 2 rfl ?_
            refine g_iload (q := 74) B dX0_weigh_72 rfl 0 rfl ?_
            refine g_callV (n := (4 * i)) (ty := tyX2) (q := 77) (As := [.int (iI ((b + ((qw : Int))) - (Sx ((4 * i)) 0)))]) (st := [.long (lI (pkF (fun k => ahF (uq (vw S i) 1 b) k qw)))]) B dX0_weigh_74 rfl (c_X2_valueOf (l := xL X) (S := Sx) hi hwx ((b + ((qw : Int))) - (Sx ((4 * i)) 0)) (by omega) (by omega)) eX2_valueOf w701 (by decide) rfl (cw_N hi (Sx ((4 * i)))) cls2 rfl rfl (Nat.le_of_ble_eq_true rfl) (g_kE ?_)
            have hvi := valF_in hwx (j := (b + ((qw : Int))) - (Sx ((4 * i)) 0)) (by omega) (by rw [vw_0]; omega)
            have hkk := (wfS hwx).2.2.2.2.2.2.1 ((b + ((qw : Int))) - (Sx ((4 * i)) 0)) (by omega) (by omega)
            have hsum : ∀ j : Int, j = jatF (uq (vw S i) 1 b) qw → pkF (fun k => ahF (uq (vw S i) 1 b) k qw) + valF (vw Sx i) j * 2 ^ (16 * Sx (4 * i + 1) j).toNat = pkF (fun k => ahF (uq (vw S i) 1 b) k (qw + 1)) := by
              intro j hj
              have hji := jatF_in hw1 (p := (qw : Int)) (by omega) (by rw [e0]; omega)
              rw [← hj, e0] at hji
              have hkj := (wfS hwx).2.2.2.2.2.2.1 j (by omega) (by omega)
              rw [pz_one hkj.1.1 hkj.1.2, pz_add]
              congr 1
              funext k
              rw [ahF_s, ahE, ← hj, ew (6 + j) (by omega), val_1 _ _ hji.1, vw_k S i hji.1 (by omega), ev, ← hf (4 * i + 1) (by omega) (by omega)]
            refine g_i2l (q := 78) B dX0_weigh_77 rfl ⟨by omega, by omega⟩ ?_
            refine g_bipush (q := 80) B dX0_weigh_78 rfl (by decide) ?_
            refine g_aload_n (q := 81) B dX0_weigh_80 rfl 2 rfl ?_
            refine g_iload (q := 83) B dX0_weigh_81 rfl 0 rfl ?_
            refine g_callV (n := (4 * i)) (ty := tyX2) (q := 86) (As := [.int (iI ((b + ((qw : Int))) - (Sx ((4 * i)) 0)))]) (st := [.int (iI 16), .long (lI (valF (vw Sx i) ((b + ((qw : Int))) - (Sx ((4 * i)) 0)))), .long (lI (pkF (fun k => ahF (uq (vw S i) 1 b) k qw)))]) B dX0_weigh_83 rfl (c_X2_kindOf (l := xL X) (S := Sx) hi ((b + ((qw : Int))) - (Sx ((4 * i)) 0)) (by omega) (by omega)) eX2_kindOf w702 (by decide) rfl (cw_N hi (Sx ((4 * i)))) cls2 rfl rfl (Nat.le_of_ble_eq_true rfl) (g_kE ?_)
            refine g_imul (q := 87) B dX0_weigh_86 rfl ?_
            refine g_lshl (v := (lI ((valF (vw Sx i) ((b + ((qw : Int))) - (Sx ((4 * i)) 0))) * 2 ^ (16 * (Sx (4 * i + 1) ((b + ((qw : Int))) - (Sx ((4 * i)) 0)))).toNat))) (q := 88) B dX0_weigh_87 rfl (lI_shlk (by omega) (by omega) (by omega)) ?_
            refine g_ladd (q := 89) B dX0_weigh_88 rfl ?_
            refine g_lstore_n (q := 90) B dX0_weigh_89 rfl (by decide) (L' := [(3, .long (lI ((pkF (fun k => ahF (uq (vw S i) 1 b) k qw)) + ((valF (vw Sx i) ((b + ((qw : Int))) - (Sx ((4 * i)) 0))) * 2 ^ (16 * (Sx (4 * i + 1) ((b + ((qw : Int))) - (Sx ((4 * i)) 0)))).toNat)))), (6, .int (iI ((b + ((qw : Int))) - (Sx ((4 * i)) 0)))), (0, .ref (yA Y 77)), (1, .ref (yA Y (4 * i))), (2, .int (iI b)), (5, .int (iI ((qw : Int))))]) rfl ?_
            refine g_aload_n (q := 91) B dX0_weigh_90 rfl 2 rfl ?_
            refine g_get (n := 77) (ty := tyX0) (q := 94) (v := .ref (yA Y 78)) B dX0_weigh_91 rfl rfl rfl cls0 0 (by decide) w127 rfl ?_
            refine g_iload (q := 96) B dX0_weigh_94 rfl 5 rfl ?_
            refine g_iconst (q := 97) B dX0_weigh_96 rfl ?_
            refine g_iadd (q := 98) B dX0_weigh_97 rfl ?_
            refine g_lload_n (q := 99) B dX0_weigh_98 rfl 0 rfl ?_
            refine g_last (n := 78) (q := 100) B dX0_weigh_99 rfl rfl (fun _ => rfl) (by decide) (by omega) (by omega) ?_
            refine g_aload_n (q := 101) B dX0_weigh_100 rfl 2 rfl ?_
            refine g_iload (q := 103) B dX0_weigh_101 rfl 5 rfl ?_
            refine g_iconst (q := 104) B dX0_weigh_103 rfl ?_
            refine g_iadd (q := 105) B dX0_weigh_104 rfl ?_
            refine g_put (n := 77) (ty := tyX0) (q := 108) B dX0_weigh_105 rfl ((us_ne _ _ (by omega)).trans rfl) rfl cls0 2 (by decide) w129 rfl rfl rfl (Nat.le_of_ble_eq_true rfl) ((uq (Sx 77) 0 (((qw : Int)) + 1))) rfl ?_
            refine g_iinc (n := 5) (q := 111) B dX0_weigh_108 rfl rfl (by decide) (L' := [(5, .int (iI ((qw : Int) + 1))), (3, .long (lI ((pkF (fun k => ahF (uq (vw S i) 1 b) k qw)) + ((valF (vw Sx i) ((b + ((qw : Int))) - (Sx ((4 * i)) 0))) * 2 ^ (16 * (Sx (4 * i + 1) ((b + ((qw : Int))) - (Sx ((4 * i)) 0)))).toNat)))), (6, .int (iI ((b + ((qw : Int))) - (Sx ((4 * i)) 0)))), (0, .ref (yA Y 77)), (1, .ref (yA Y (4 * i))), (2, .int (iI b))]) rfl ?_
            refine g_goto (q := 20) B dX0_weigh_111 (by decide) ?_
            refine g_sub [3, 4, 5, 1, 0] rfl ?_
            exact ih (qw + 1) _ _ _ (by first | exact hsum _ (by rw [jat_1, vw_0, Int.emod_eq_of_lt (by omega) (by omega)]) | exact hsum _ (by rw [jat_1, vw_0, ← Int.emod_eq_of_lt (a := b + qw - Sx (4 * i) 0) (b := S (4 * i) 0) (by omega) (by omega), ex0, Int.sub_emod_right])) (by rfl) (by first | assumption | omega) (by rfl) (by exact hx1) (by exact (fun p hp => by
        by_cases hpq : p = qw + 1
        · subst hpq; rw [us_a (show 78 ≠ 77 by decide), us_eq, show ((qw + 1 : Nat) : Int) = (qw : Int) + 1 by omega, uq_eq]; first | exact hsum _ (by rw [jat_1, vw_0, Int.emod_eq_of_lt (by omega) (by omega)]) | exact hsum _ (by rw [jat_1, vw_0, ← Int.emod_eq_of_lt (a := b + qw - Sx (4 * i) 0) (b := S (4 * i) 0) (by omega) (by omega), ex0, Int.sub_emod_right])
        · rw [us_a (show 78 ≠ 77 by decide), us_eq, uq_ne _ _ (by omega)]; exact hA p (by omega))) (by exact (fun m h7 h8 => by rw [us_a h7, us_a h8]; exact hf m h7 h8)) (by omega)
          · refine g_iload_n (q := 53) B dX0_weigh_52 rfl 2 rfl ?_
            refine g_iload (q := 55) B dX0_weigh_53 rfl 4 rfl ?_
            refine g_iadd (q := 56) B dX0_weigh_55 rfl ?_
            refine g_goto (q := 68) B dX0_weigh_56 (by decide) ?_
            refine g_istore (q := 70) B dX0_weigh_68 rfl (by decide) (L' := [(6, .int (iI (b + ((qw : Int))))), (0, .ref (yA Y 77)), (1, .ref (yA Y (4 * i))), (2, .int (iI b)), (3, .long (lI (pkF (fun k => ahF (uq (vw S i) 1 b) k qw)))), (5, .int (iI ((qw : Int))))]) rfl ?_
            refine g_lload_n (q := 71) B dX0_weigh_70 rfl 4 rfl ?_
            refine g_aload_n (q := 72) B dX0_weigh_71 rfl 2 rfl ?_
            refine g_iload (q := 74) B dX0_weigh_72 rfl 0 rfl ?_
            refine g_callV (n := (4 * i)) (ty := tyX2) (q := 77) (As := [.int (iI (b + ((qw : Int))))]) (st := [.long (lI (pkF (fun k => ahF (uq (vw S i) 1 b) k qw)))]) B dX0_weigh_74 rfl (c_X2_valueOf (l := xL X) (S := Sx) hi hwx (b + ((qw : Int))) (by omega) (by omega)) eX2_valueOf w701 (by decide) rfl (cw_N hi (Sx ((4 * i)))) cls2 rfl rfl (Nat.le_of_ble_eq_true rfl) (g_kE ?_)
            have hvi := valF_in hwx (j := b + ((qw : Int))) (by omega) (by rw [vw_0]; omega)
            have hkk := (wfS hwx).2.2.2.2.2.2.1 (b + ((qw : Int))) (by omega) (by omega)
            have hsum : ∀ j : Int, j = jatF (uq (vw S i) 1 b) qw → pkF (fun k => ahF (uq (vw S i) 1 b) k qw) + valF (vw Sx i) j * 2 ^ (16 * Sx (4 * i + 1) j).toNat = pkF (fun k => ahF (uq (vw S i) 1 b) k (qw + 1)) := by
              intro j hj
              have hji := jatF_in hw1 (p := (qw : Int)) (by omega) (by rw [e0]; omega)
              rw [← hj, e0] at hji
              have hkj := (wfS hwx).2.2.2.2.2.2.1 j (by omega) (by omega)
              rw [pz_one hkj.1.1 hkj.1.2, pz_add]
              congr 1
              funext k
              rw [ahF_s, ahE, ← hj, ew (6 + j) (by omega), val_1 _ _ hji.1, vw_k S i hji.1 (by omega), ev, ← hf (4 * i + 1) (by omega) (by omega)]
            refine g_i2l (q := 78) B dX0_weigh_77 rfl ⟨by omega, by omega⟩ ?_
            refine g_bipush (q := 80) B dX0_weigh_78 rfl (by decide) ?_
            refine g_aload_n (q := 81) B dX0_weigh_80 rfl 2 rfl ?_
            refine g_iload (q := 83) B dX0_weigh_81 rfl 0 rfl ?_
            refine g_callV (n := (4 * i)) (ty := tyX2) (q := 86) (As := [.int (iI (b + ((qw : Int))))]) (st := [.int (iI 16), .long (lI (valF (vw Sx i) (b + ((qw : Int))))), .long (lI (pkF (fun k => ahF (uq (vw S i) 1 b) k qw)))]) B dX0_weigh_83 rfl (c_X2_kindOf (l := xL X) (S := Sx) hi (b + ((qw : Int))) (by omega) (by omega)) eX2_kindOf w702 (by decide) rfl (cw_N hi (Sx ((4 * i)))) cls2 rfl rfl (Nat.le_of_ble_eq_true rfl) (g_kE ?_)
            refine g_imul (q := 87) B dX0_weigh_86 rfl ?_
            refine g_lshl (v := (lI ((valF (vw Sx i) (b + ((qw : Int)))) * 2 ^ (16 * (Sx (4 * i + 1) (b + ((qw : Int))))).toNat))) (q := 88) B dX0_weigh_87 rfl (lI_shlk (by omega) (by omega) (by omega)) ?_
            refine g_ladd (q := 89) B dX0_weigh_88 rfl ?_
            refine g_lstore_n (q := 90) B dX0_weigh_89 rfl (by decide) (L' := [(3, .long (lI ((pkF (fun k => ahF (uq (vw S i) 1 b) k qw)) + ((valF (vw Sx i) (b + ((qw : Int)))) * 2 ^ (16 * (Sx (4 * i + 1) (b + ((qw : Int))))).toNat)))), (6, .int (iI (b + ((qw : Int))))), (0, .ref (yA Y 77)), (1, .ref (yA Y (4 * i))), (2, .int (iI b)), (5, .int (iI ((qw : Int))))]) rfl ?_
            refine g_aload_n (q := 91) B dX0_weigh_90 rfl 2 rfl ?_
            refine g_get (n := 77) (ty := tyX0) (q := 94) (v := .ref (yA Y 78)) B dX0_weigh_91 rfl rfl rfl cls0 0 (by decide) w127 rfl ?_
            refine g_iload (q := 96) B dX0_weigh_94 rfl 5 rfl ?_
            refine g_iconst (q := 97) B dX0_weigh_96 rfl ?_
            refine g_iadd (q := 98) B dX0_weigh_97 rfl ?_
            refine g_lload_n (q := 99) B dX0_weigh_98 rfl 0 rfl ?_
            refine g_last (n := 78) (q := 100) B dX0_weigh_99 rfl rfl (fun _ => rfl) (by decide) (by omega) (by omega) ?_
            refine g_aload_n (q := 101) B dX0_weigh_100 rfl 2 rfl ?_
            refine g_iload (q := 103) B dX0_weigh_101 rfl 5 rfl ?_
            refine g_iconst (q := 104) B dX0_weigh_103 rfl ?_
            refine g_iadd (q := 105) B dX0_weigh_104 rfl ?_
            refine g_put (n := 77) (ty := tyX0) (q := 108) B dX0_weigh_105 rfl ((us_ne _ _ (by omega)).trans rfl) rfl cls0 2 (by decide) w129 rfl rfl rfl (Nat.le_of_ble_eq_true rfl) ((uq (Sx 77) 0 (((qw : Int)) + 1))) rfl ?_
            refine g_iinc (n := 5) (q := 111) B dX0_weigh_108 rfl rfl (by decide) (L' := [(5, .int (iI ((qw : Int) + 1))), (3, .long (lI ((pkF (fun k => ahF (uq (vw S i) 1 b) k qw)) + ((valF (vw Sx i) (b + ((qw : Int)))) * 2 ^ (16 * (Sx (4 * i + 1) (b + ((qw : Int))))).toNat)))), (6, .int (iI (b + ((qw : Int))))), (0, .ref (yA Y 77)), (1, .ref (yA Y (4 * i))), (2, .int (iI b))]) rfl ?_
            refine g_goto (q := 20) B dX0_weigh_111 (by decide) ?_
            refine g_sub [3, 4, 5, 1, 0] rfl ?_
            exact ih (qw + 1) _ _ _ (by first | exact hsum _ (by rw [jat_1, vw_0, Int.emod_eq_of_lt (by omega) (by omega)]) | exact hsum _ (by rw [jat_1, vw_0, ← Int.emod_eq_of_lt (a := b + qw - Sx (4 * i) 0) (b := S (4 * i) 0) (by omega) (by omega), ex0, Int.sub_emod_right])) (by rfl) (by first | assumption | omega) (by rfl) (by exact hx1) (by exact (fun p hp => by
        by_cases hpq : p = qw + 1
        · subst hpq; rw [us_a (show 78 ≠ 77 by decide), us_eq, show ((qw + 1 : Nat) : Int) = (qw : Int) + 1 by omega, uq_eq]; first | exact hsum _ (by rw [jat_1, vw_0, Int.emod_eq_of_lt (by omega) (by omega)]) | exact hsum _ (by rw [jat_1, vw_0, ← Int.emod_eq_of_lt (a := b + qw - Sx (4 * i) 0) (b := S (4 * i) 0) (by omega) (by omega), ex0, Int.sub_emod_right])
        · rw [us_a (show 78 ≠ 77 by decide), us_eq, uq_ne _ _ (by omega)]; exact hA p (by omega))) (by exact (fun m h7 h8 => by rw [us_a h7, us_a h8]; exact hf m h7 h8)) (by omega)
  refine g_aload_n (q := 1) B dX0_weigh_0 rfl 0 rfl ?_
  refine g_iconst (q := 2) B dX0_weigh_1 rfl ?_
  refine g_put (n := 77) (ty := tyX0) (q := 5) B dX0_weigh_2 rfl rfl rfl cls0 2 (by decide) w129 rfl rfl rfl (Nat.le_of_ble_eq_true rfl) ((uq (S 77) 0 0)) rfl ?_
  refine g_aload_n (q := 6) B dX0_weigh_5 rfl 0 rfl ?_
  refine g_lconst (z := 0) (q := 7) B dX0_weigh_6 rfl rfl ?_
  refine g_put (n := 77) (ty := tyX0) (q := 10) B dX0_weigh_7 rfl (us_eq _ _ _) rfl cls0 3 (by decide) w130 rfl rfl rfl (Nat.le_of_ble_eq_true rfl) ((uq ((uq (S 77) 0 0)) 1 0)) rfl ?_
  refine g_eqS (us_us _ _ _ _) ?_
  refine g_aload_n (q := 11) B dX0_weigh_10 rfl 1 rfl ?_
  refine g_ifnonnull (q := 15) B dX0_weigh_11 (by decide) ?_
  refine g_lconst (z := 0) (q := 16) B dX0_weigh_15 rfl rfl ?_
  refine g_lstore_n (q := 17) B dX0_weigh_16 rfl (by decide) (L' := [(3, .long (lI 0)), (0, .ref (yA Y 77)), (1, .ref (yA Y (4 * i))), (2, .int (iI b))]) rfl ?_
  refine g_iconst (q := 18) B dX0_weigh_17 rfl ?_
  refine g_istore (q := 20) B dX0_weigh_18 rfl (by decide) (L' := [(5, .int (iI 0)), (3, .long (lI 0)), (0, .ref (yA Y 77)), (1, .ref (yA Y (4 * i))), (2, .int (iI b))]) rfl ?_
  refine g_sub [2, 3, 4, 1, 0] rfl ?_
  exact lp20 _ 0 _ _ _ (by rfl) (by first | rfl | omega) (by first | assumption | omega) (by rfl) (by rfl) (by exact (fun p hp => by rw [show p = 0 by omega]; exact h0)) (by exact fun m h7 h8 => us_a h7) (Nat.lt_succ_self _)
set_option maxHeartbeats 4000000 in
theorem c_X0_sumAhead {Y : gY} {l : Launch} {S : SS} (p : Int) (h0 : 0 ≤ p) (h1 : p < 17) : gM Y l mX0_sumAhead S [.ref (yA Y 77), .int (iI p)] (pV (.long (lI (S 78 p))) (fun S' => S' = S)) := by
  refine gM_of (by decide) (Nat.le_of_ble_eq_true rfl) ?_
  intro X hXl B E
  show gW Y X S 0 [(0, .ref (yA Y 77)), (1, .int (iI p))] []
  refine g_iload_n (q := 1) B dX0_sumAhead_0 rfl 1 rfl ?_
  refine g_if_lt (t := 22) (q := 4) B dX0_sumAhead_1 (by decide) rfl ⟨by omega, by omega⟩ (fun cq1 => ?_) (fun cq1 => ?_)
  · exact absurd cq1 (by omega)
  · refine g_iload_n (q := 5) B dX0_sumAhead_4 rfl 1 rfl ?_
    refine g_aload_n (q := 6) B dX0_sumAhead_5 rfl 0 rfl ?_
    refine g_get (n := 77) (ty := tyX0) (q := 9) (v := .ref (yA Y 78)) B dX0_sumAhead_6 rfl rfl rfl cls0 0 (by decide) w127 rfl ?_
    refine g_alen (n := 78) (q := 10) B dX0_sumAhead_9 rfl rfl rfl 2 rfl (z := 17) rfl ?_
    refine g_icmp_ge (t := 22) (q := 13) B dX0_sumAhead_10 (by decide) rfl ⟨by omega, by omega⟩ ⟨by omega, by omega⟩ (fun cq10 => ?_) (fun cq10 => ?_)
    · exact absurd cq10 (by omega)
    · refine g_aload_n (q := 14) B dX0_sumAhead_13 rfl 0 rfl ?_
      refine g_get (n := 77) (ty := tyX0) (q := 17) (v := .ref (yA Y 78)) B dX0_sumAhead_14 rfl rfl rfl cls0 0 (by decide) w127 rfl ?_
      refine g_iload_n (q := 18) B dX0_sumAhead_17 rfl 1 rfl ?_
      refine g_lald (n := 78) (q := 19) B dX0_sumAhead_18 rfl rfl rfl (by decide) (by omega) (by omega) ?_
      refine g_goto (q := 23) B dX0_sumAhead_19 (by decide) ?_
      refine g_lret B E dX0_sumAhead_23 ?_
      exact ⟨rfl, rfl⟩
set_option maxHeartbeats 4000000 in
theorem c_X0_keepCut {Y : gY} {l : Launch} {S : SS} (k p : Int) (h0 : 0 ≤ k) (h1 : k < 6) : gM Y l mX0_keepCut S [.ref (yA Y 77), .int (iI k), .int (iI p)] (p0 (fun S' => S' = us S 79 (uq (S 79) k p))) := by
  refine gM_of (by decide) (Nat.le_of_ble_eq_true rfl) ?_
  intro X hXl B E
  show gW Y X S 0 [(0, .ref (yA Y 77)), (1, .int (iI k)), (2, .int (iI p))] []
  refine g_iload_n (q := 1) B dX0_keepCut_0 rfl 1 rfl ?_
  refine g_if_lt (t := 20) (q := 4) B dX0_keepCut_1 (by decide) rfl ⟨by omega, by omega⟩ (fun cq1 => ?_) (fun cq1 => ?_)
  · exact absurd cq1 (by omega)
  · refine g_iload_n (q := 5) B dX0_keepCut_4 rfl 1 rfl ?_
    refine g_aload_n (q := 6) B dX0_keepCut_5 rfl 0 rfl ?_
    refine g_get (n := 77) (ty := tyX0) (q := 9) (v := .ref (yA Y 79)) B dX0_keepCut_6 rfl rfl rfl cls0 1 (by decide) w128 rfl ?_
    refine g_alen (n := 79) (q := 10) B dX0_keepCut_9 rfl rfl rfl 0 rfl (z := 6) rfl ?_
    refine g_icmp_ge (t := 20) (q := 13) B dX0_keepCut_10 (by decide) rfl ⟨by omega, by omega⟩ ⟨by omega, by omega⟩ (fun cq10 => ?_) (fun cq10 => ?_)
    · exact absurd cq10 (by omega)
    · refine g_aload_n (q := 14) B dX0_keepCut_13 rfl 0 rfl ?_
      refine g_get (n := 77) (ty := tyX0) (q := 17) (v := .ref (yA Y 79)) B dX0_keepCut_14 rfl rfl rfl cls0 1 (by decide) w128 rfl ?_
      refine g_iload_n (q := 18) B dX0_keepCut_17 rfl 1 rfl ?_
      refine g_iload_n (q := 19) B dX0_keepCut_18 rfl 2 rfl ?_
      refine g_iast (n := 79) (q := 20) B dX0_keepCut_19 rfl rfl (fun _ => rfl) (by decide) (by omega) (by omega) ?_
      refine g_vret B E dX0_keepCut_20 ?_
      exact ⟨rfl, rfl⟩
set_option maxHeartbeats 4000000 in
theorem c_X0_foundCut {Y : gY} {l : Launch} {S : SS} (k : Int) (h0 : 0 ≤ k) (h1 : k < 6) : gM Y l mX0_foundCut S [.ref (yA Y 77), .int (iI k)] (pV (.int (iI (S 79 k))) (fun S' => S' = S)) := by
  refine gM_of (by decide) (Nat.le_of_ble_eq_true rfl) ?_
  intro X hXl B E
  show gW Y X S 0 [(0, .ref (yA Y 77)), (1, .int (iI k))] []
  refine g_iload_n (q := 1) B dX0_foundCut_0 rfl 1 rfl ?_
  refine g_if_lt (t := 22) (q := 4) B dX0_foundCut_1 (by decide) rfl ⟨by omega, by omega⟩ (fun cq1 => ?_) (fun cq1 => ?_)
  · exact absurd cq1 (by omega)
  · refine g_iload_n (q := 5) B dX0_foundCut_4 rfl 1 rfl ?_
    refine g_aload_n (q := 6) B dX0_foundCut_5 rfl 0 rfl ?_
    refine g_get (n := 77) (ty := tyX0) (q := 9) (v := .ref (yA Y 79)) B dX0_foundCut_6 rfl rfl rfl cls0 1 (by decide) w128 rfl ?_
    refine g_alen (n := 79) (q := 10) B dX0_foundCut_9 rfl rfl rfl 0 rfl (z := 6) rfl ?_
    refine g_icmp_ge (t := 22) (q := 13) B dX0_foundCut_10 (by decide) rfl ⟨by omega, by omega⟩ ⟨by omega, by omega⟩ (fun cq10 => ?_) (fun cq10 => ?_)
    · exact absurd cq10 (by omega)
    · refine g_aload_n (q := 14) B dX0_foundCut_13 rfl 0 rfl ?_
      refine g_get (n := 77) (ty := tyX0) (q := 17) (v := .ref (yA Y 79)) B dX0_foundCut_14 rfl rfl rfl cls0 1 (by decide) w128 rfl ?_
      refine g_iload_n (q := 18) B dX0_foundCut_17 rfl 1 rfl ?_
      refine g_iald (n := 79) (q := 19) B dX0_foundCut_18 rfl rfl rfl (by decide) (by omega) (by omega) ?_
      refine g_goto (q := 23) B dX0_foundCut_19 (by decide) ?_
      refine g_iret B E dX0_foundCut_23 ?_
      exact ⟨rfl, rfl⟩
set_option maxHeartbeats 4000000 in
theorem c_X0_isOddOfAKind {Y : gY} {l : Launch} {S : SS} {g : Int → Int} (hd : wd S g) (hw : wf g) : gM Y l mX0_isOddOfAKind S [.ref (yA Y 77)] (pV (.int (iI (oddF g))) (fun S' => S' = S)) := by
  refine gM_of (by decide) (Nat.le_of_ble_eq_true rfl) ?_
  intro X hXl B E
  obtain ⟨hd0, hd1, hd2⟩ := id hd
  have hn := hw.1
  have eT : S 78 (S 77 0) = pkF (fun k => ahF g k (g 0).toNat) := by rw [hd0]; exact wd_p hd hn.1 (Int.le_refl _)
  have hR := ahF_R hw (g 0).toNat (by omega)
  have hR2 : pkR (fun k => ahF g k (g 0).toNat % 2) 32768 := fun k a b => by simp only []; omega
  have hP := pz_in (Int.le_refl _) hR2
  show gW Y X S 0 [(0, .ref (yA Y 77))] []
  refine g_aload_n (q := 1) B dX0_isOddOfAKind_0 rfl 0 rfl ?_
  refine g_aload_n (q := 2) B dX0_isOddOfAKind_1 rfl 0 rfl ?_
  refine g_get (n := 77) (ty := tyX0) (q := 5) (v := .int (iI (S 77 0))) B dX0_isOddOfAKind_2 rfl rfl rfl cls0 2 (by decide) w129 rfl ?_
  refine g_callV (n := 77) (ty := tyX0) (q := 8) (As := [.int (iI (S 77 0))]) (st := []) B dX0_isOddOfAKind_5 rfl (c_X0_sumAhead (l := xL X) (S := S) (S 77 0) (by omega) (by omega)) eX0_sumAhead w711 (by decide) rfl rfl cls0 rfl rfl (Nat.le_of_ble_eq_true rfl) (g_kE ?_)
  refine g_eqT (st' := [.long (lI (pkF (fun k => ahF g k (g 0).toNat)))]) (congrArg (fun z => Value.long (lI z) :: []) (show S 78 (S 77 0) = pkF (fun k => ahF g k (g 0).toNat) by exact eT)) ?_
  refine g_ldc2 (z := 281479271743489) (q := 11) B dX0_isOddOfAKind_8 rfl w715 (by decide) ?_
  refine g_land (v := (lI (pkF (fun k => ahF g k (g 0).toNat % 2)))) (q := 12) B dX0_isOddOfAKind_11 rfl (pz_low (hR.up (by decide))) ?_
  refine g_lconst (z := 0) (q := 13) B dX0_isOddOfAKind_12 rfl rfl ?_
  refine g_lcmp_eq (t := 21) (q := 17) B dX0_isOddOfAKind_13 dX0_isOddOfAKind_14 (by decide) rfl ⟨by omega, by omega⟩ ⟨by omega, by omega⟩ (fun cq13 => ?_) (fun cq13 => ?_)
  · refine g_iconst (q := 22) B dX0_isOddOfAKind_21 rfl ?_
    refine g_zret B E dX0_isOddOfAKind_22 rfl (by decide) ?_
    exact ⟨congrArg (fun z => some (Value.int (iI z))) (show (0 : Int) = oddF g by have h2 := odd_iff g; have h3 := oddF_in g; first | exact (h2.mp cq13).symm | (have h4 : oddF g ≠ 0 := fun z => cq13 (h2.mpr z); omega)), rfl⟩
  · refine g_iconst (q := 18) B dX0_isOddOfAKind_17 rfl ?_
    refine g_goto (q := 22) B dX0_isOddOfAKind_18 (by decide) ?_
    refine g_zret B E dX0_isOddOfAKind_22 rfl (by decide) ?_
    exact ⟨congrArg (fun z => some (Value.int (iI z))) (show (1 : Int) = oddF g by have h2 := odd_iff g; have h3 := oddF_in g; first | exact (h2.mp cq13).symm | (have h4 : oddF g ≠ 0 := fun z => cq13 (h2.mpr z); omega)), rfl⟩
set_option maxHeartbeats 4000000 in
theorem c_X0_isOverHalf {Y : gY} {l : Launch} {S : SS} (f h : Int → Int) (hf : pkR f 32768) (hh : pkR h 32768) (e1 : S 77 1 = pkF h) : gM Y l mX0_isOverHalf S [.ref (yA Y 77), .long (lI (pkF f))] (pV (.int (iI (ovF h f))) (fun S' => S' = S)) := by
  refine gM_of (by decide) (Nat.le_of_ble_eq_true rfl) ?_
  intro X hXl B E
  have hP := pz_in (Int.le_refl _) hh
  have hQ := pz_in (Int.le_refl _) hf
  show gW Y X S 0 [(0, .ref (yA Y 77)), (1, .long (lI (pkF f)))] []
  refine g_aload_n (q := 1) B dX0_isOverHalf_0 rfl 0 rfl ?_
  refine g_get (n := 77) (ty := tyX0) (q := 4) (v := .long (lI (S 77 1))) B dX0_isOverHalf_1 rfl rfl rfl cls0 3 (by decide) w130 rfl ?_
  refine g_eqT (st' := [.long (lI (pkF h))]) (congrArg (fun z => Value.long (lI z) :: []) (show S 77 1 = pkF h by exact e1)) ?_
  refine g_ldc2 (z := -9223231297218904064) (q := 7) B dX0_isOverHalf_4 rfl w727 (by decide) ?_
  refine g_lor (v := (lI (pkF (fun k => h k + 32768)))) (q := 8) B dX0_isOverHalf_7 rfl (pz_high hh) ?_
  refine g_lload_n (q := 9) B dX0_isOverHalf_8 rfl 1 rfl ?_
  refine g_lsub (q := 10) B dX0_isOverHalf_9 rfl ?_
  refine g_eqT (st' := [.long (lI (pkF (fun k => h k + 32768 - f k)))]) (congrArg (fun z => Value.long (lI z) :: []) (show (pkF (fun k => h k + 32768)) - (pkF f) = pkF (fun k => h k + 32768 - f k) by rw [pz_sub])) ?_
  refine g_ldc2 (z := -9223231297218904064) (q := 13) B dX0_isOverHalf_10 rfl w727 (by decide) ?_
  refine g_land (v := (lI ((lI (pkF (fun k => h k + 32768 - f k)) &&& lI (-9223231297218904064)).toInt))) (q := 14) B dX0_isOverHalf_13 rfl ((lI_self _).symm) ?_
  refine g_ldc2 (z := -9223231297218904064) (q := 17) B dX0_isOverHalf_14 rfl w727 (by decide) ?_
  refine g_lcmp_eq (t := 25) (q := 21) B dX0_isOverHalf_17 dX0_isOverHalf_18 (by decide) rfl (rL_toInt _) ⟨by decide, by decide⟩ (fun cq17 => ?_) (fun cq17 => ?_)
  · refine g_iconst (q := 26) B dX0_isOverHalf_25 rfl ?_
    refine g_zret B E dX0_isOverHalf_26 rfl (by decide) ?_
    exact ⟨congrArg (fun z => some (Value.int (iI z))) (show (0 : Int) = ovF h f by have h2 := ov_iff hh hf; have h3 := ovF_in h f; first | exact (h2.mp cq17).symm | (have h4 : ovF h f ≠ 0 := fun z => cq17 (h2.mpr z); omega)), rfl⟩
  · refine g_iconst (q := 22) B dX0_isOverHalf_21 rfl ?_
    refine g_goto (q := 26) B dX0_isOverHalf_22 (by decide) ?_
    refine g_zret B E dX0_isOverHalf_26 rfl (by decide) ?_
    exact ⟨congrArg (fun z => some (Value.int (iI z))) (show (1 : Int) = ovF h f by have h2 := ov_iff hh hf; have h3 := ovF_in h f; first | exact (h2.mp cq17).symm | (have h4 : ovF h f ≠ 0 := fun z => cq17 (h2.mpr z); omega)), rfl⟩
set_option maxHeartbeats 4000000 in
theorem c_X0_withRun {Y : gY} {l : Launch} {S : SS} {g : Int → Int} (hd : wd S g) (hn : g 0 ≤ 16) (s : Int → Int) (r a b : Int) (hr : 0 ≤ r ∧ r < 100) (ha : 0 ≤ a ∧ a ≤ g 0) (hb : 0 ≤ b ∧ b ≤ g 0) : gM Y l mX0_withRun S [.ref (yA Y 77), .long (lI (pkF s)), .int (iI r), .int (iI a), .int (iI b)] (pV (.long (lI (pkF (wrF g s r a b)))) (fun S' => S' = S)) := by
  refine gM_of (by decide) (Nat.le_of_ble_eq_true rfl) ?_
  intro X hXl B E
  show gW Y X S 0 [(0, .ref (yA Y 77)), (1, .long (lI (pkF s))), (3, .int (iI r)), (4, .int (iI a)), (5, .int (iI b))] []
  refine g_iload_n (q := 1) B dX0_withRun_0 rfl 2 rfl ?_
  refine g_iconst (q := 2) B dX0_withRun_1 rfl ?_
  refine g_iand (v := (iI (r % 2))) (q := 3) B dX0_withRun_2 rfl (iI_and1 (by omega) (by omega)) ?_
  refine g_if_ne (t := 24) (q := 6) B dX0_withRun_3 (by decide) rfl ⟨by omega, by omega⟩ (fun cq3 => ?_) (fun cq3 => ?_)
  · refine g_lload_n (q := 25) B dX0_withRun_24 rfl 1 rfl ?_
    refine g_lret B E dX0_withRun_25 ?_
    exact ⟨congrArg (fun z => some (Value.long (lI z))) (wr_f cq3), rfl⟩
  · refine g_lload_n (q := 7) B dX0_withRun_6 rfl 1 rfl ?_
    refine g_aload_n (q := 8) B dX0_withRun_7 rfl 0 rfl ?_
    refine g_iload (q := 10) B dX0_withRun_8 rfl 4 rfl ?_
    refine g_callV (n := 77) (ty := tyX0) (q := 13) (As := [.int (iI b)]) (st := [.long (lI (pkF s))]) B dX0_withRun_10 rfl (c_X0_sumAhead (l := xL X) (S := S) b (by omega) (by omega)) eX0_sumAhead w711 (by decide) rfl rfl cls0 rfl rfl (Nat.le_of_ble_eq_true rfl) (g_kE ?_)
    refine g_eqT (st' := [.long (lI (pkF (fun k => ahF g k b.toNat))), .long (lI (pkF s))]) (congrArg (fun z => Value.long (lI z) :: [.long (lI (pkF s))]) (show S 78 b = pkF (fun k => ahF g k b.toNat) by exact wd_p hd hb.1 hb.2)) ?_
    refine g_ladd (q := 14) B dX0_withRun_13 rfl ?_
    refine g_aload_n (q := 15) B dX0_withRun_14 rfl 0 rfl ?_
    refine g_iload (q := 17) B dX0_withRun_15 rfl 3 rfl ?_
    refine g_callV (n := 77) (ty := tyX0) (q := 20) (As := [.int (iI a)]) (st := [.long (lI ((pkF s) + (pkF (fun k => ahF g k b.toNat))))]) B dX0_withRun_17 rfl (c_X0_sumAhead (l := xL X) (S := S) a (by omega) (by omega)) eX0_sumAhead w711 (by decide) rfl rfl cls0 rfl rfl (Nat.le_of_ble_eq_true rfl) (g_kE ?_)
    refine g_eqT (st' := [.long (lI (pkF (fun k => ahF g k a.toNat))), .long (lI ((pkF s) + (pkF (fun k => ahF g k b.toNat))))]) (congrArg (fun z => Value.long (lI z) :: [.long (lI ((pkF s) + (pkF (fun k => ahF g k b.toNat))))]) (show S 78 a = pkF (fun k => ahF g k a.toNat) by exact wd_p hd ha.1 ha.2)) ?_
    refine g_lsub (q := 21) B dX0_withRun_20 rfl ?_
    refine g_goto (q := 25) B dX0_withRun_21 (by decide) ?_
    refine g_lret B E dX0_withRun_25 ?_
    exact ⟨congrArg (fun z => some (Value.long (lI z))) (wr_t cq3), rfl⟩
set_option maxHeartbeats 4000000 in
theorem c_X0_gapOf {Y : gY} {l : Launch} {S : SS} {g : Int → Int} (hd : wd S g) (hw : wf g) (s : Int → Int) (hs : pkR s 32768) : gM Y l mX0_gapOf S [.ref (yA Y 77), .long (lI (pkF s))] (pV (.int (iI (gapS g s))) (fun S' => S' = S)) := by
  refine gM_of (by decide) (Nat.le_of_ble_eq_true rfl) ?_
  intro X hXl B E
  obtain ⟨hd0, hd1, hd2⟩ := id hd
  have hn := hw.1
  have eT : S 78 (S 77 0) = pkF (fun k => ahF g k (g 0).toNat) := by rw [hd0]; exact wd_p hd hn.1 (Int.le_refl _)
  have hR := ahF_R hw (g 0).toNat (by omega)
  have hP := pz_in (Int.le_refl _) hR
  have hQ := pz_in (Int.le_refl _) hs
  show gW Y X S 0 [(0, .ref (yA Y 77)), (1, .long (lI (pkF s)))] []
  have lp15 : ∀ (fu : Nat) (kw : Nat) (x1 x3 x5 x6 : Int) , x1 = (pkF s) → x3 = (pkF (fun k => ahF g k (g 0).toNat)) → x5 = (sm (gpS g s) kw) → x6 = ((kw : Int)) → kw ≤ 4 → 4 - kw < fu → gW Y X S 15 [(0, .ref (yA Y 77)), (1, .long (lI x1)), (3, .long (lI x3)), (5, .int (iI x5)), (6, .int (iI x6))] [] := by
    intro fu
    induction fu with
    | zero =>
      intro kw x1 x3 x5 x6 e_x1 e_x3 e_x5 e_x6 hk hfu
      exact absurd hfu (Nat.not_lt_zero _)
    | succ fu ih =>
      intro kw x1 x3 x5 x6 e_x1 e_x3 e_x5 e_x6 hk hfu
      subst e_x1
      subst e_x3
      subst e_x5
      subst e_x6
      have hsm := sm_gpS hw hs kw hk
      have hsk : (kw : Int) < 4 → 0 ≤ s kw ∧ s kw < 32768 := fun h => hs kw (by omega) h
      have htk := ahF_b hw kw (g 0).toNat (by omega)
      refine g_iload (q := 17) B dX0_gapOf_15 rfl 4 rfl ?_
      refine g_iconst (q := 18) B dX0_gapOf_17 rfl ?_
      refine g_icmp_ge (t := 68) (q := 21) B dX0_gapOf_18 (by decide) rfl ⟨by omega, by omega⟩ ⟨by omega, by omega⟩ (fun cq18 => ?_) (fun cq18 => ?_)
      · refine g_iload (q := 70) B dX0_gapOf_68 rfl 3 rfl ?_
        refine g_iret B E dX0_gapOf_70 ?_
        exact ⟨by rw [gapS, show kw = 4 by omega], rfl⟩
      · refine g_lload_n (q := 22) B dX0_gapOf_21 rfl 2 rfl ?_
        refine g_bipush (q := 24) B dX0_gapOf_22 rfl (by decide) ?_
        refine g_iload (q := 26) B dX0_gapOf_24 rfl 4 rfl ?_
        refine g_imul (q := 27) B dX0_gapOf_26 rfl ?_
        refine g_lushr (v := (lI (pkF (fun k => ahF g k (g 0).toNat) / 2 ^ (16 * (kw : Int)).toNat))) (q := 28) B dX0_gapOf_27 rfl (lI_ushrk (by omega) (by omega) (by omega) (by omega)) ?_
        refine g_l2i (q := 29) B dX0_gapOf_28 rfl ?_
        refine g_ldc (z := 65535) (q := 31) B dX0_gapOf_29 rfl w806 (by decide) ?_
        refine g_iand (v := (iI (ahF g kw (g 0).toNat))) (q := 32) B dX0_gapOf_31 rfl ((iI_lo16 (Int.ediv_nonneg hP.1 (Int.le_of_lt (Int.pow_pos (by decide))))).trans (congrArg iI (pz_part hR (by omega) (by omega)))) ?_
        refine g_istore (q := 34) B dX0_gapOf_32 rfl (by decide) (L' := [(7, .int (iI (ahF g kw (g 0).toNat))), (0, .ref (yA Y 77)), (1, .long (lI (pkF s))), (3, .long (lI (pkF (fun k => ahF g k (g 0).toNat)))), (5, .int (iI (sm (gpS g s) kw))), (6, .int (iI ((kw : Int))))]) rfl ?_
        refine g_lload_n (q := 35) B dX0_gapOf_34 rfl 2 rfl ?_
        refine g_bipush (q := 37) B dX0_gapOf_35 rfl (by decide) ?_
        refine g_iload (q := 39) B dX0_gapOf_37 rfl 5 rfl ?_
        refine g_imul (q := 40) B dX0_gapOf_39 rfl ?_
        refine g_lushr (v := (lI (pkF s / 2 ^ (16 * (kw : Int)).toNat))) (q := 41) B dX0_gapOf_40 rfl (lI_ushrk (by omega) (by omega) (by omega) (by omega)) ?_
        refine g_l2i (q := 42) B dX0_gapOf_41 rfl ?_
        refine g_ldc (z := 65535) (q := 44) B dX0_gapOf_42 rfl w806 (by decide) ?_
        refine g_iand (v := (iI (s kw))) (q := 45) B dX0_gapOf_44 rfl ((iI_lo16 (Int.ediv_nonneg hQ.1 (Int.le_of_lt (Int.pow_pos (by decide))))).trans (congrArg iI (pz_part hs (by omega) (by omega)))) ?_
        refine g_istore (q := 47) B dX0_gapOf_45 rfl (by decide) (L' := [(8, .int (iI (s kw))), (7, .int (iI (ahF g kw (g 0).toNat))), (0, .ref (yA Y 77)), (1, .long (lI (pkF s))), (3, .long (lI (pkF (fun k => ahF g k (g 0).toNat)))), (5, .int (iI (sm (gpS g s) kw))), (6, .int (iI ((kw : Int))))]) rfl ?_
        refine g_iload (q := 49) B dX0_gapOf_47 rfl 5 rfl ?_
        refine g_iload (q := 51) B dX0_gapOf_49 rfl 1 rfl ?_
        refine g_iconst (q := 52) B dX0_gapOf_51 rfl ?_
        refine g_iload (q := 54) B dX0_gapOf_52 rfl 0 rfl ?_
        refine g_imul (q := 55) B dX0_gapOf_54 rfl ?_
        refine g_isub (q := 56) B dX0_gapOf_55 rfl ?_
        refine g_abs (q := 59) B dX0_gapOf_56 rfl w807 wst_abs w32 wco_abs (by decide) (Nat.le_of_ble_eq_true rfl) ⟨by omega, by omega⟩ ?_
        refine g_iadd (q := 60) B dX0_gapOf_59 rfl ?_
        refine g_istore (q := 62) B dX0_gapOf_60 rfl (by decide) (L' := [(5, .int (iI ((sm (gpS g s) kw) + (absI ((ahF g kw (g 0).toNat) - (2 * (s kw))))))), (8, .int (iI (s kw))), (7, .int (iI (ahF g kw (g 0).toNat))), (0, .ref (yA Y 77)), (1, .long (lI (pkF s))), (3, .long (lI (pkF (fun k => ahF g k (g 0).toNat)))), (6, .int (iI ((kw : Int))))]) rfl ?_
        refine g_iinc (n := 6) (q := 65) B dX0_gapOf_62 rfl rfl (by decide) (L' := [(6, .int (iI ((kw : Int) + 1))), (5, .int (iI ((sm (gpS g s) kw) + (absI ((ahF g kw (g 0).toNat) - (2 * (s kw))))))), (8, .int (iI (s kw))), (7, .int (iI (ahF g kw (g 0).toNat))), (0, .ref (yA Y 77)), (1, .long (lI (pkF s))), (3, .long (lI (pkF (fun k => ahF g k (g 0).toNat))))]) rfl ?_
        refine g_goto (q := 15) B dX0_gapOf_65 (by decide) ?_
        refine g_sub [4, 5, 6, 1, 0] rfl ?_
        exact ih (kw + 1) _ _ _ _ (by first | rfl | omega) (by first | rfl | omega) (by rw [sm_s, gpS]) (by first | rfl | omega) (by first | assumption | omega) (by omega)
  refine g_aload_n (q := 1) B dX0_gapOf_0 rfl 0 rfl ?_
  refine g_aload_n (q := 2) B dX0_gapOf_1 rfl 0 rfl ?_
  refine g_get (n := 77) (ty := tyX0) (q := 5) (v := .int (iI (S 77 0))) B dX0_gapOf_2 rfl rfl rfl cls0 2 (by decide) w129 rfl ?_
  refine g_callV (n := 77) (ty := tyX0) (q := 8) (As := [.int (iI (S 77 0))]) (st := []) B dX0_gapOf_5 rfl (c_X0_sumAhead (l := xL X) (S := S) (S 77 0) (by omega) (by omega)) eX0_sumAhead w711 (by decide) rfl rfl cls0 rfl rfl (Nat.le_of_ble_eq_true rfl) (g_kE ?_)
  refine g_eqT (st' := [.long (lI (pkF (fun k => ahF g k (g 0).toNat)))]) (congrArg (fun z => Value.long (lI z) :: []) (show S 78 (S 77 0) = pkF (fun k => ahF g k (g 0).toNat) by exact eT)) ?_
  refine g_lstore_n (q := 9) B dX0_gapOf_8 rfl (by decide) (L' := [(3, .long (lI (pkF (fun k => ahF g k (g 0).toNat)))), (0, .ref (yA Y 77)), (1, .long (lI (pkF s)))]) rfl ?_
  refine g_iconst (q := 10) B dX0_gapOf_9 rfl ?_
  refine g_istore (q := 12) B dX0_gapOf_10 rfl (by decide) (L' := [(5, .int (iI 0)), (3, .long (lI (pkF (fun k => ahF g k (g 0).toNat)))), (0, .ref (yA Y 77)), (1, .long (lI (pkF s)))]) rfl ?_
  refine g_iconst (q := 13) B dX0_gapOf_12 rfl ?_
  refine g_istore (q := 15) B dX0_gapOf_13 rfl (by decide) (L' := [(6, .int (iI 0)), (5, .int (iI 0)), (3, .long (lI (pkF (fun k => ahF g k (g 0).toNat)))), (0, .ref (yA Y 77)), (1, .long (lI (pkF s)))]) rfl ?_
  refine g_sub [3, 4, 2, 1, 0] rfl ?_
  exact lp15 _ 0 _ _ _ _ (by first | rfl | omega) (by first | rfl | omega) (by first | rfl | omega) (by first | rfl | omega) (by first | assumption | omega) (Nat.lt_succ_self _)
