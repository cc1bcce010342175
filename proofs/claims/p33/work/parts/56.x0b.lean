set_option maxHeartbeats 4000000 in
theorem c_X0_dividesWith {Y : gY} {l : Launch} {S : SS} {g : Int → Int} (hw : wf g) (ho : oddF g = 0) (c : Nat) (hc6 : c ≤ 6) (jq : Nat) (ihr : ∀ (S : SS) (r : Nat) (t : Int → Int), jq ≠ 0 → wd S g → preW (g 0) r t → r + (jq - 1) = c → gM Y l (mX0_dividesWith (jq - 1)) S [.ref (yA Y 77), .int (iI (c : Int)), .int (iI (r : Int)), .int (iI (lst t r)), .long (lI (pkF (fun k => fsP g k t r)))] (pV (.int (iI (dvV g c r t))) (dwP g c r t S))) (hd : wd S g) (r : Nat) (t : Int → Int) (ht : preW (g 0) r t) (hr : r + jq = c) : gM Y l (mX0_dividesWith jq) S [.ref (yA Y 77), .int (iI ((c : Int))), .int (iI ((r : Int))), .int (iI (lst t r)), .long (lI (pkF (fun k => fsP g k t r)))] (pV (.int (iI (dvV g c r t))) (dwP g c r t S)) := by
  refine gM_of rfl (Nat.le_of_ble_eq_true rfl) ?_
  intro X hXl B E
  subst hXl
  have hn := hw.1
  have hl := preW_lst ht hn.1
  have hTp := pz_in (Int.le_refl _) (ahF_R hw (g 0).toNat (by omega))
  have hd0 := hd.1
  have hd1 := hd.2.1
  show gW Y X S 0 [(0, .ref (yA Y 77)), (1, .int (iI ((c : Int)))), (2, .int (iI ((r : Int)))), (3, .int (iI (lst t r))), (4, .long (lI (pkF (fun k => fsP g k t r))))] []
  have lp36 : ∀ (fu : Nat) (pw : Nat) (x1 x2 x3 x4 x6 : Int) , x1 = ((c : Int)) → x2 = ((r : Int)) → x3 = (lst t r) → x4 = (pkF (fun k => fsP g k t r)) → x6 = ((pw : Int)) → lst t r < (pw : Int) ∧ (pw : Int) ≤ g 0 + 1 → (∀ v : Int → Int, agrN r v t → goodW g c v → (pw : Int) ≤ v r) → r < c → (g 0).toNat + 2 - pw < fu → gW Y X S 36 [(0, .ref (yA Y 77)), (1, .int (iI x1)), (2, .int (iI x2)), (3, .int (iI x3)), (4, .long (lI x4)), (6, .int (iI x6))] [] := by
    intro fu
    induction fu with
    | zero =>
      intro pw x1 x2 x3 x4 x6 e_x1 e_x2 e_x3 e_x4 e_x6 hp hno hrc hfu
      exact absurd hfu (Nat.not_lt_zero _)
    | succ fu ih =>
      intro pw x1 x2 x3 x4 x6 e_x1 e_x2 e_x3 e_x4 e_x6 hp hno hrc hfu
      subst e_x1
      subst e_x2
      subst e_x3
      subst e_x4
      subst e_x6
      refine g_iload (q := 38) B dX0_dividesWith_36 rfl 5 rfl ?_
      refine g_aload_n (q := 39) B dX0_dividesWith_38 rfl 0 rfl ?_
      refine g_get (n := 77) (ty := tyX0) (q := 42) (v := .int (iI (S 77 0))) B dX0_dividesWith_39 rfl rfl rfl cls0 2 (by decide) w129 rfl ?_
      refine g_icmp_ge (t := 114) (q := 45) B dX0_dividesWith_42 (by decide) rfl ⟨by omega, by omega⟩ ⟨by omega, by omega⟩ (fun cq42 => ?_) (fun cq42 => ?_)
      · refine g_iconst (q := 115) B dX0_dividesWith_114 rfl ?_
        refine g_zret B E dX0_dividesWith_115 rfl (by decide) ?_
        have h0 : dvV g c r t = 0 := dvV_0 (fun v hv hg => by
          have h1 := hno v hv hg
          have h2 := (hg.1 r (by omega)).2
          omega)
        exact ⟨congrArg (fun z => some (Value.int (iI z))) h0.symm, fun _ => rfl, fun h => absurd (h0.symm.trans h) (by decide)⟩
      · refine g_aload_n (q := 46) B dX0_dividesWith_45 rfl 0 rfl ?_
        refine g_lload (q := 48) B dX0_dividesWith_46 rfl 4 rfl ?_
        refine g_iload_n (q := 49) B dX0_dividesWith_48 rfl 2 rfl ?_
        refine g_iload_n (q := 50) B dX0_dividesWith_49 rfl 3 rfl ?_
        refine g_iload (q := 52) B dX0_dividesWith_50 rfl 5 rfl ?_
        refine g_callV (n := 77) (ty := tyX0) (q := 55) (As := [.long (lI (pkF (fun k => fsP g k t r))), .int (iI ((r : Int))), .int (iI (lst t r)), .int (iI ((pw : Int)))]) (st := []) B dX0_dividesWith_52 rfl (c_X0_withRun (l := xL X) (S := S) hd (by omega) (fun k => fsP g k t r) ((r : Int)) (lst t r) ((pw : Int)) (by omega) (by omega) (by omega)) eX0_withRun w719 (show 1 + 1 ≤ 2 + jq by omega) rfl rfl cls0 rfl rfl (Nat.le_of_ble_eq_true rfl) (g_kE ?_)
        have hpt : preW (g 0) (r + 1) (uq t r pw) := preW_up ht hp.1 (by omega)
        have hWR : pkR (wrF g (fun k => fsP g k t r) (r : Int) (lst t r) (pw : Int)) 32768 := by rw [← fsP_up]; exact fsP_R hw hpt
        have hF2R : pkR (fun k => ahF g k (pw : Int).toNat - wrF g (fun k => fsP g k t r) (r : Int) (lst t r) (pw : Int) k) 32768 := fun k k0 k1 => by
          have a := fsP_b hw k hpt
          have b := congrFun (fsP_up g t r pw) k
          have d := ahF_b hw k (pw : Int).toNat (by omega)
          rw [lst_s, uq_eq] at a
          simp only [] at b ⊢
          omega
        have ehf := (hd.2.1.trans (half_R hw ho).1)
        have hHR := (half_R hw ho).2
        refine g_lstore (q := 57) B dX0_dividesWith_55 rfl (Nat.le_of_ble_eq_true rfl) (L' := [(7, .long (lI (pkF (wrF g (fun k => fsP g k t r) ((r : Int)) (lst t r) ((pw : Int)))))), (0, .ref (yA Y 77)), (1, .int (iI ((c : Int)))), (2, .int (iI ((r : Int)))), (3, .int (iI (lst t r))), (4, .long (lI (pkF (fun k => fsP g k t r)))), (6, .int (iI ((pw : Int))))]) rfl ?_
        refine g_aload_n (q := 58) B dX0_dividesWith_57 rfl 1 rfl ?_
        refine g_lload (q := 60) B dX0_dividesWith_58 rfl 0 rfl ?_
        refine g_callV (n := 77) (ty := tyX0) (q := 63) (As := [.long (lI (pkF (wrF g (fun k => fsP g k t r) ((r : Int)) (lst t r) ((pw : Int)))))]) (st := []) B dX0_dividesWith_60 rfl (c_X0_isOverHalf (l := xL X) (S := S) (wrF g (fun k => fsP g k t r) (r : Int) (lst t r) (pw : Int)) (fun k => ahF g k (g 0).toNat / 2) hWR hHR ehf) eX0_isOverHalf w723 (show 0 + 1 ≤ 2 + jq by omega) rfl rfl cls0 rfl rfl (Nat.le_of_ble_eq_true rfl) (g_kE ?_)
        have := ovF_in (fun k => ahF g k (g 0).toNat / 2) (wrF g (fun k => fsP g k t r) (r : Int) (lst t r) (pw : Int))
        refine g_if_ne (t := 82) (q := 66) B dX0_dividesWith_63 (by decide) rfl ⟨by omega, by omega⟩ (fun cq63 => ?_) (fun cq63 => ?_)
        · refine g_iconst (q := 83) B dX0_dividesWith_82 rfl ?_
          refine g_zret B E dX0_dividesWith_83 rfl (by decide) ?_
          have h0 : dvV g c r t = 0 := dvV_0 (fun v hv hg => cut_off hw ho (by omega) ht hp.1 (Or.inl cq63) hv (hno v hv hg) hg)
          exact ⟨congrArg (fun z => some (Value.int (iI z))) h0.symm, fun _ => rfl, fun h => absurd (h0.symm.trans h) (by decide)⟩
        · refine g_aload_n (q := 67) B dX0_dividesWith_66 rfl 1 rfl ?_
          refine g_aload_n (q := 68) B dX0_dividesWith_67 rfl 1 rfl ?_
          refine g_iload (q := 70) B dX0_dividesWith_68 rfl 6 rfl ?_
          refine g_callV (n := 77) (ty := tyX0) (q := 73) (As := [.int (iI ((pw : Int)))]) (st := [.ref (yA Y 77)]) B dX0_dividesWith_70 rfl (c_X0_sumAhead (l := xL X) (S := S) ((pw : Int)) (by omega) (by omega)) eX0_sumAhead w711 (show 0 + 1 ≤ 2 + jq by omega) rfl rfl cls0 rfl rfl (Nat.le_of_ble_eq_true rfl) (g_kE ?_)
          refine g_lload (q := 75) B dX0_dividesWith_73 rfl 0 rfl ?_
          refine g_lsub (q := 76) B dX0_dividesWith_75 rfl ?_
          refine g_eqT (st' := [.long (lI (pkF (fun k => ahF g k (pw : Int).toNat - wrF g (fun k => fsP g k t r) (r : Int) (lst t r) (pw : Int) k))), .ref (yA Y 77)]) (congrArg (fun z => Value.long (lI z) :: [.ref (yA Y 77)]) (show (S 78 ((pw : Int))) - (pkF (wrF g (fun k => fsP g k t r) ((r : Int)) (lst t r) ((pw : Int)))) = pkF (fun k => ahF g k (pw : Int).toNat - wrF g (fun k => fsP g k t r) (r : Int) (lst t r) (pw : Int) k) by rw [wd_p hd (by omega) (by omega), pz_sub])) ?_
          refine g_callV (n := 77) (ty := tyX0) (q := 79) (As := [.long (lI (pkF (fun k => ahF g k (pw : Int).toNat - wrF g (fun k => fsP g k t r) (r : Int) (lst t r) (pw : Int) k)))]) (st := []) B dX0_dividesWith_76 rfl (c_X0_isOverHalf (l := xL X) (S := S) (fun k => ahF g k (pw : Int).toNat - wrF g (fun k => fsP g k t r) (r : Int) (lst t r) (pw : Int) k) (fun k => ahF g k (g 0).toNat / 2) hF2R hHR ehf) eX0_isOverHalf w723 (show 0 + 1 ≤ 2 + jq by omega) rfl rfl cls0 rfl rfl (Nat.le_of_ble_eq_true rfl) (g_kE ?_)
          have := ovF_in (fun k => ahF g k (g 0).toNat / 2) (fun k => ahF g k (pw : Int).toNat - wrF g (fun k => fsP g k t r) (r : Int) (lst t r) (pw : Int) k)
          refine g_if_eq (t := 84) (q := 82) B dX0_dividesWith_79 (by decide) rfl ⟨by omega, by omega⟩ (fun cq79 => ?_) (fun cq79 => ?_)
          · refine g_aload_n (q := 85) B dX0_dividesWith_84 rfl 1 rfl ?_
            refine g_iload_n (q := 86) B dX0_dividesWith_85 rfl 2 rfl ?_
            refine g_iload_n (q := 87) B dX0_dividesWith_86 rfl 3 rfl ?_
            refine g_iconst (q := 88) B dX0_dividesWith_87 rfl ?_
            refine g_iadd (q := 89) B dX0_dividesWith_88 rfl ?_
            refine g_iload (q := 91) B dX0_dividesWith_89 rfl 6 rfl ?_
            refine g_lload (q := 93) B dX0_dividesWith_91 rfl 0 rfl ?_
            have hih := ihr S (r + 1) (uq t r pw) (by omega) hd hpt (by omega)
            rw [lst_s, uq_eq, fsP_up, show ((r + 1 : Nat) : Int) = (r : Int) + 1 by omega] at hih
            refine g_callS (q := 96) (As := [.ref (yA Y 77), .int (iI ((c : Int))), .int (iI (((r : Int)) + 1)), .int (iI ((pw : Int))), .long (lI (pkF (wrF g (fun k => fsP g k t r) ((r : Int)) (lst t r) ((pw : Int)))))]) (st := []) B dX0_dividesWith_93 rfl (hih) (eX0_dividesWith (jq - 1)) w716 (show 2 + (jq - 1) + 1 ≤ 2 + jq by omega) rfl rfl (Nat.le_of_ble_eq_true rfl) (g_kV (fun Sy hzSy => ?_))
            have hdv := dvV_in g c (r + 1) (uq t r pw)
            refine g_if_eq (t := 108) (q := 99) B dX0_dividesWith_96 (by decide) rfl ⟨by omega, by omega⟩ (fun cq96 => ?_) (fun cq96 => ?_)
            · refine g_iinc (n := 6) (q := 111) B dX0_dividesWith_108 rfl rfl (Nat.le_of_ble_eq_true rfl) (L' := [(6, .int (iI ((pw : Int) + 1))), (7, .long (lI (pkF (wrF g (fun k => fsP g k t r) ((r : Int)) (lst t r) ((pw : Int)))))), (0, .ref (yA Y 77)), (1, .int (iI ((c : Int)))), (2, .int (iI ((r : Int)))), (3, .int (iI (lst t r))), (4, .long (lI (pkF (fun k => fsP g k t r))))]) rfl ?_
              refine g_goto (q := 36) B dX0_dividesWith_111 (by decide) ?_
              refine g_sub [2, 3, 4, 5, 6, 0] rfl ?_
              refine g_eqS ((hzSy.1 cq96)) ?_
              exact ih (pw + 1) _ _ _ _ _ (by first | rfl | omega) (by first | rfl | omega) (by first | rfl | omega) (by first | rfl | omega) (by first | rfl | omega) (by first | assumption | omega) (by exact (fun v hv hg => by
          have h1 := hno v hv hg
          by_cases e : v r = pw
          · exact absurd hg (by
              rcases dvV_or g c (r + 1) (uq t r pw) with ⟨h2, -⟩ | ⟨-, h2⟩
              · omega
              · exact h2 v (fun i hi => by
                  by_cases hi2 : i = r
                  · subst hi2; rw [e, uq_eq]
                  · rw [hv i (by omega), uq_ne _ _ (by omega)]))
          · omega)) (by first | assumption | omega) (by omega)
            · refine g_aload_n (q := 100) B dX0_dividesWith_99 rfl 1 rfl ?_
              refine g_iload_n (q := 101) B dX0_dividesWith_100 rfl 3 rfl ?_
              refine g_iload (q := 103) B dX0_dividesWith_101 rfl 6 rfl ?_
              refine g_callV (n := 77) (ty := tyX0) (q := 106) (As := [.int (iI ((r : Int))), .int (iI ((pw : Int)))]) (st := []) B dX0_dividesWith_103 rfl (c_X0_keepCut (l := xL X) (S := Sy) ((r : Int)) ((pw : Int)) (by omega) (by omega)) eX0_keepCut w728 (show 0 + 1 ≤ 2 + jq by omega) rfl rfl cls0 rfl rfl (Nat.le_of_ble_eq_true rfl) (g_0E ?_)
              refine g_iconst (q := 107) B dX0_dividesWith_106 rfl ?_
              refine g_zret B E dX0_dividesWith_107 rfl (by decide) ?_
              have h1 : dvV g c (r + 1) (uq t r pw) = 1 := by omega
              obtain ⟨u, F, hu, hF, hF1, hF2⟩ := hzSy.2 h1
              obtain ⟨hlu, hur⟩ := lowW_up (by omega) hno hu
              have h3 := dvV_1 hlu.1 hlu.2.1
              refine ⟨congrArg (fun z => some (Value.int (iI z))) h3.symm, fun h => absurd (h3.symm.trans h) (by decide), fun _ => ⟨u, uq F r pw, hlu, by rw [hF, us_eq, us_us], fun i a b => ?_, fun b hb => ?_⟩⟩
              · by_cases hi : i = r
                · rw [hi, uq_eq, hur]
                · rw [uq_ne _ _ (by omega)]; exact hF1 i (by omega) b
              · rw [uq_ne _ _ (by omega)]; exact hF2 b (by omega)
          · refine g_iconst (q := 83) B dX0_dividesWith_82 rfl ?_
            refine g_zret B E dX0_dividesWith_83 rfl (by decide) ?_
            have h0 : dvV g c r t = 0 := dvV_0 (fun v hv hg => cut_off hw ho (by omega) ht hp.1 (Or.inr cq79) hv (hno v hv hg) hg)
            exact ⟨congrArg (fun z => some (Value.int (iI z))) h0.symm, fun _ => rfl, fun h => absurd (h0.symm.trans h) (by decide)⟩
  refine g_iload_n (q := 1) B dX0_dividesWith_0 rfl 2 rfl ?_
  refine g_iload_n (q := 2) B dX0_dividesWith_1 rfl 1 rfl ?_
  refine g_icmp_lt (t := 31) (q := 5) B dX0_dividesWith_2 (by decide) rfl ⟨by omega, by omega⟩ ⟨by omega, by omega⟩ (fun cq2 => ?_) (fun cq2 => ?_)
  · refine g_iload_n (q := 32) B dX0_dividesWith_31 rfl 3 rfl ?_
    refine g_iconst (q := 33) B dX0_dividesWith_32 rfl ?_
    refine g_iadd (q := 34) B dX0_dividesWith_33 rfl ?_
    refine g_istore (q := 36) B dX0_dividesWith_34 rfl (Nat.le_of_ble_eq_true rfl) (L' := [(6, .int (iI ((lst t r) + 1))), (0, .ref (yA Y 77)), (1, .int (iI ((c : Int)))), (2, .int (iI ((r : Int)))), (3, .int (iI (lst t r))), (4, .long (lI (pkF (fun k => fsP g k t r))))]) rfl ?_
    refine g_sub [1, 2, 3, 4, 5, 0] rfl ?_
    exact lp36 _ ((lst t r + 1).toNat) _ _ _ _ _ (by first | rfl | omega) (by first | rfl | omega) (by first | rfl | omega) (by first | rfl | omega) (by first | rfl | omega) (by first | assumption | omega) (by exact (fun v hv hg => by have h2 := (hg.1 r (by omega)).1; rw [lst_c hv] at h2; omega)) (by first | assumption | omega) (Nat.lt_succ_self _)
  · refine g_aload_n (q := 6) B dX0_dividesWith_5 rfl 0 rfl ?_
    refine g_lload (q := 8) B dX0_dividesWith_6 rfl 4 rfl ?_
    refine g_iload_n (q := 9) B dX0_dividesWith_8 rfl 2 rfl ?_
    refine g_iload_n (q := 10) B dX0_dividesWith_9 rfl 3 rfl ?_
    refine g_aload_n (q := 11) B dX0_dividesWith_10 rfl 0 rfl ?_
    refine g_get (n := 77) (ty := tyX0) (q := 14) (v := .int (iI (S 77 0))) B dX0_dividesWith_11 rfl rfl rfl cls0 2 (by decide) w129 rfl ?_
    refine g_eqT (st' := [.int (iI (g 0)), .int (iI (lst t r)), .int (iI ((r : Int))), .long (lI (pkF (fun k => fsP g k t r))), .ref (yA Y 77)]) (congrArg (fun z => Value.int (iI z) :: [.int (iI (lst t r)), .int (iI ((r : Int))), .long (lI (pkF (fun k => fsP g k t r))), .ref (yA Y 77)]) (show S 77 0 = g 0 by exact hd0)) ?_
    refine g_callV (n := 77) (ty := tyX0) (q := 17) (As := [.long (lI (pkF (fun k => fsP g k t r))), .int (iI ((r : Int))), .int (iI (lst t r)), .int (iI (g 0))]) (st := []) B dX0_dividesWith_14 rfl (c_X0_withRun (l := xL X) (S := S) hd (by omega) (fun k => fsP g k t r) ((r : Int)) (lst t r) (g 0) (by omega) (by omega) (by omega)) eX0_withRun w719 (show 1 + 1 ≤ 2 + jq by omega) rfl rfl cls0 rfl rfl (Nat.le_of_ble_eq_true rfl) (g_kE ?_)
    have erc9 : c = r := by omega
    have eE9 : wrF g (fun k => fsP g k t r) (r : Int) (lst t r) (g 0) = fsE g c t := by rw [erc9]; rfl
    have hER := pz_in (Int.le_refl _) (fsE_R hw (show preW (g 0) c t by rw [erc9]; exact ht))
    rw [← eE9] at hER
    refine g_aload_n (q := 18) B dX0_dividesWith_17 rfl 0 rfl ?_
    refine g_get (n := 77) (ty := tyX0) (q := 21) (v := .long (lI (S 77 1))) B dX0_dividesWith_18 rfl rfl rfl cls0 3 (by decide) w130 rfl ?_
    refine g_lcmp_ne (t := 29) (q := 25) B dX0_dividesWith_21 dX0_dividesWith_22 (by decide) rfl ⟨by omega, by omega⟩ ⟨by omega, by omega⟩ (fun cq21 => ?_) (fun cq21 => ?_)
    · refine g_iconst (q := 30) B dX0_dividesWith_29 rfl ?_
      refine g_zret B E dX0_dividesWith_30 rfl (by decide) ?_
      have erc : c = r := by omega
      have eE : wrF g (fun k => fsP g k t r) (r : Int) (lst t r) (g 0) = fsE g c t := by rw [erc]; rfl
      rw [eE] at cq21
      have hpc : preW (g 0) c t := by rw [erc]; exact ht
      have hif := half_iff hw ho (fsE_R hw hpc)
      have h0 : dvV g c r t = 0 := dvV_0 (fun v hv hg => cq21 (by
        have h1 : goodW g c t := goodW_c (show agrN c t v by rw [erc]; exact hv.sy) hg
        rw [hd.2.1]
        exact hif.mpr h1.2))
      exact ⟨congrArg (fun z => some (Value.int (iI z))) h0.symm, fun _ => rfl, fun h => absurd (h0.symm.trans h) (by decide)⟩
    · refine g_iconst (q := 26) B dX0_dividesWith_25 rfl ?_
      refine g_goto (q := 30) B dX0_dividesWith_26 (by decide) ?_
      refine g_zret B E dX0_dividesWith_30 rfl (by decide) ?_
      have erc : c = r := by omega
      have eE : wrF g (fun k => fsP g k t r) (r : Int) (lst t r) (g 0) = fsE g c t := by rw [erc]; rfl
      rw [eE] at cq21
      have hpc : preW (g 0) c t := by rw [erc]; exact ht
      have hif := half_iff hw ho (fsE_R hw hpc)
      have hg : goodW g c t := ⟨hpc, hif.mp (cq21.trans hd.2.1)⟩
      refine ⟨congrArg (fun z => some (Value.int (iI z))) (dvV_1 agrN.rf hg).symm, fun h => absurd ((dvV_1 agrN.rf hg).symm.trans h) (by decide), fun _ => ⟨t, S 79, ⟨agrN.rf, hg, fun v hv _ hl => ?_⟩, (us_id S 79).symm, fun i a b => absurd b (by omega), fun _ _ => rfl⟩⟩
      obtain ⟨d, d0, d1, d2, d3⟩ := hl
      obtain ⟨dn, rfl⟩ := Int.eq_ofNat_of_zero_le d0
      have := hv dn (by omega)
      omega
