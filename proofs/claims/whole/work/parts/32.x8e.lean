set_option maxHeartbeats 4000000 in
theorem c_X8_layOut {Y : gY} {l : Launch} {S : SS} {n : Nat} (hm : isM n) (hw : wf (mw S n)) : gM Y l mX8_layOut S [.ref (yA Y 82), .ref (yA Y n)] (p0 (fun S' => ∃ D : Int → Int, lay (mw S n) D ∧ S' = us S 89 D)) := by
  refine gM_of (by decide) (Nat.le_of_ble_eq_true rfl) ?_
  intro X hXl B E
  obtain ⟨⟨hn0, hn16⟩, ⟨hb0, hb1⟩, ⟨hm0, hm1⟩, ⟨hs0, hs1⟩, ⟨hc0, hc1⟩, hct, hkw, how⟩ := wfT hw
  have hn9 : n ≠ 89 := by rcases hm with h | h <;> omega
  show gW Y X S 0 [(0, .ref (yA Y 82)), (1, .ref (yA Y n))] []
  have lp2 : ∀ (fu : Nat) (k : Nat) (D : Int → Int) (x2 : Int) , x2 = ((k : Int)) → k ≤ 4 → (∀ k1 : Int, 0 ≤ k1 → k1 < k → ∀ p : Nat, (p : Int) ≤ S n 0 → D (17 * k1 + p) = ahF (mw S n) k1 p) → 4 - k < fu → gW Y X (us S 89 D) 2 [(0, .ref (yA Y 82)), (1, .ref (yA Y n)), (2, .int (iI x2))] [] := by
    intro fu
    induction fu with
    | zero =>
      intro k D x2 e_x2 hk hD hfu
      exact absurd hfu (Nat.not_lt_zero _)
    | succ fu ih =>
      intro k D x2 e_x2 hk hD hfu
      subst e_x2
      have lp19 : ∀ (fu : Nat) (p : Nat) (Dx : Int → Int) (x2 x3 : Int) , x2 = ((k : Int)) → x3 = ((p : Int)) → (p : Int) ≤ S n 0 → (∀ k1 : Int, 0 ≤ k1 → k1 < k → ∀ q : Nat, (q : Int) ≤ S n 0 → Dx (17 * k1 + q) = ahF (mw S n) k1 q) → (∀ q : Nat, (q : Int) ≤ p → Dx (17 * k + q) = ahF (mw S n) k q) → k < 4 → 17 - p < fu → gW Y X (us S 89 Dx) 19 [(0, .ref (yA Y 82)), (1, .ref (yA Y n)), (2, .int (iI x2)), (3, .int (iI x3))] [] := by
        intro fu
        induction fu with
        | zero =>
          intro p Dx x2 x3 e_x2 e_x3 hp hDx hE hk4 hfu
          exact absurd hfu (Nat.not_lt_zero _)
        | succ fu ih19 =>
          intro p Dx x2 x3 e_x2 e_x3 hp hDx hE hk4 hfu
          subst e_x2
          subst e_x3
          have hwD : wf (mw (us S 89 Dx) n) := by rw [mw_ne hn9]; exact hw
          have e0 : us S 89 Dx n 0 = S n 0 := by rw [us_a hn9]
          refine g_iload_n (q := 20) B dX8_layOut_19 rfl 3 rfl ?_
          refine g_aload_n (q := 21) B dX8_layOut_20 rfl 1 rfl ?_
          refine g_iconst (q := 22) B dX8_layOut_21 rfl ?_
          refine g_iald (n := n) (q := 23) B dX8_layOut_22 rfl ((us_ne _ _ (by omega)).trans rfl) (cw_M hm (S n)) (by decide) (by omega) (by omega) ?_
          refine g_icmp_ge (t := 85) (q := 26) B dX8_layOut_23 (by decide) rfl ⟨by omega, by omega⟩ ⟨by omega, by omega⟩ (fun cq23 => ?_) (fun cq23 => ?_)
          · refine g_iinc (n := 2) (q := 88) B dX8_layOut_85 rfl rfl (by decide) (L' := [(2, .int (iI ((k : Int) + 1))), (0, .ref (yA Y 82)), (1, .ref (yA Y n)), (3, .int (iI ((p : Int))))]) rfl ?_
            refine g_goto (q := 2) B dX8_layOut_88 (by decide) ?_
            refine g_sub [1, 2, 0] rfl ?_
            have hDy : ∀ k1 : Int, 0 ≤ k1 → k1 < ((k + 1 : Nat) : Int) → ∀ q : Nat, (q : Int) ≤ S n 0 → Dx (17 * k1 + q) = ahF (mw S n) k1 q := by
              intro k1 h0 h1 q hq
              by_cases hk1 : k1 = k
              · subst hk1; exact hE q (by omega)
              · exact hDx k1 h0 (by omega) q hq
            exact ih (k + 1) _ _ (by first | rfl | omega) (by omega) (by exact hDy) (by omega)
          · refine g_aload_n (q := 27) B dX8_layOut_26 rfl 1 rfl ?_
            refine g_iload_n (q := 28) B dX8_layOut_27 rfl 3 rfl ?_
            refine g_callS (q := 31) (As := [.ref (yA Y n), .int (iI ((p : Int)))]) (st := []) B dX8_layOut_28 rfl (c_X8_jewelAt (l := xL X) (S := (us S 89 Dx)) hm hwD ((p : Int)) (by omega) (by omega)) eX8_jewelAt w1077 (by decide) rfl rfl (Nat.le_of_ble_eq_true rfl) (g_kE ?_)
            have hj := jatF_in hw (p := (p : Int)) (by omega) (by rw [mw_0]; omega)
            rw [mw_0] at hj
            have hkk := hkw _ hj.1 hj.2
            have hjz : jatF (mw (us S 89 Dx) n) (p : Int) = jatF (mw S n) (p : Int) := by rw [mw_ne hn9]
            have hkk2 := hkk
            rw [← hjz] at hkk2
            refine g_istore (q := 33) B dX8_layOut_31 rfl (by decide) (L' := [(4, .int (iI (jatF (mw (us S 89 Dx) n) ((p : Int))))), (0, .ref (yA Y 82)), (1, .ref (yA Y n)), (2, .int (iI ((k : Int)))), (3, .int (iI ((p : Int))))]) rfl ?_
            refine g_aload_n (q := 34) B dX8_layOut_33 rfl 1 rfl ?_
            refine g_get (n := 82) (ty := tyX8) (q := 37) (v := .ref (yA Y 89)) B dX8_layOut_34 rfl ((us_ne _ _ (by omega)).trans rfl) rfl cls6 9 (by decide) w960 rfl ?_
            refine g_bipush (q := 39) B dX8_layOut_37 rfl (by decide) ?_
            refine g_iload_n (q := 40) B dX8_layOut_39 rfl 3 rfl ?_
            refine g_imul (q := 41) B dX8_layOut_40 rfl ?_
            refine g_iload_n (q := 42) B dX8_layOut_41 rfl 4 rfl ?_
            refine g_iadd (q := 43) B dX8_layOut_42 rfl ?_
            refine g_iconst (q := 44) B dX8_layOut_43 rfl ?_
            refine g_iadd (q := 45) B dX8_layOut_44 rfl ?_
            refine g_aload_n (q := 46) B dX8_layOut_45 rfl 1 rfl ?_
            refine g_get (n := 82) (ty := tyX8) (q := 49) (v := .ref (yA Y 89)) B dX8_layOut_46 rfl ((us_ne _ _ (by omega)).trans rfl) rfl cls6 9 (by decide) w960 rfl ?_
            refine g_bipush (q := 51) B dX8_layOut_49 rfl (by decide) ?_
            refine g_iload_n (q := 52) B dX8_layOut_51 rfl 3 rfl ?_
            refine g_imul (q := 53) B dX8_layOut_52 rfl ?_
            refine g_iload_n (q := 54) B dX8_layOut_53 rfl 4 rfl ?_
            refine g_iadd (q := 55) B dX8_layOut_54 rfl ?_
            refine g_iald (n := 89) (q := 56) B dX8_layOut_55 rfl (us_eq _ _ _) rfl (by decide) (by omega) (by omega) ?_
            refine g_aload_n (q := 57) B dX8_layOut_56 rfl 2 rfl ?_
            refine g_bipush (q := 59) B dX8_layOut_57 rfl (by decide) ?_
            refine g_iload (q := 61) B dX8_layOut_59 rfl 0 rfl ?_
            refine g_iadd (q := 62) B dX8_layOut_61 rfl ?_
            refine g_iald (n := n) (q := 63) B dX8_layOut_62 rfl ((us_ne _ _ (by omega)).trans rfl) (cw_M hm (S n)) (by decide) (by omega) (by omega) ?_
            refine g_iload_n (q := 64) B dX8_layOut_63 rfl 3 rfl ?_
            refine g_icmp_ne (t := 76) (q := 67) B dX8_layOut_64 (by decide) rfl ⟨by omega, by omega⟩ ⟨by omega, by omega⟩ (fun cq64 => ?_) (fun cq64 => ?_)
            · refine g_iconst (q := 77) B dX8_layOut_76 rfl ?_
              refine g_iadd (q := 78) B dX8_layOut_77 rfl ?_
              refine g_iast (n := 89) (q := 79) B dX8_layOut_78 rfl (us_eq _ _ _) (fun _ => rfl) (by decide) (by omega) (by omega) ?_
              refine g_eqS (us_us _ _ _ _) ?_
              refine g_iinc (n := 4) (q := 82) B dX8_layOut_79 rfl rfl (by decide) (L' := [(3, .int (iI ((p : Int) + 1))), (4, .int (iI (jatF (mw (us S 89 Dx) n) ((p : Int))))), (0, .ref (yA Y 82)), (1, .ref (yA Y n)), (2, .int (iI ((k : Int))))]) rfl ?_
              refine g_goto (q := 19) B dX8_layOut_82 (by decide) ?_
              refine g_sub [2, 3, 4, 0] rfl ?_
              have hah : ahE (mw S n) k p = 0 := by
                rw [mw_ne hn9] at cq64
                rw [ahE, mw_e S n (by omega) (by omega)]
                exact if_neg cq64
              have hEy : ∀ q : Nat, (q : Int) ≤ ((p + 1 : Nat) : Int) → (uq Dx (((17 * ((k : Int))) + ((p : Int))) + 1) ((Dx ((17 * ((k : Int))) + ((p : Int)))) + 0)) (17 * k + q) = ahF (mw S n) k q := by
                intro q hq
                by_cases hq1 : (q : Int) = p + 1
                · rw [show q = p + 1 by omega, show 17 * (k : Int) + ((p + 1 : Nat) : Int) = 17 * k + p + 1 by omega, uq_eq, hE p (by omega), ahF, ahF, sm_s, hah]
                · rw [uq_ne _ _ (by omega)]; exact hE q (by omega)
              exact ih19 (p + 1) _ _ _ (by first | rfl | omega) (by first | rfl | omega) (by first | assumption | omega) (by intro k1 h0 h1 q hq; rw [uq_ne _ _ (by omega)]; exact hDx k1 h0 h1 q hq) (by exact hEy) (by first | assumption | omega) (by omega)
            · refine g_aload_n (q := 68) B dX8_layOut_67 rfl 2 rfl ?_
              refine g_iload (q := 70) B dX8_layOut_68 rfl 0 rfl ?_
              refine g_callS (q := 73) (As := [.ref (yA Y n), .int (iI (jatF (mw (us S 89 Dx) n) ((p : Int))))]) (st := [.int (iI (Dx ((17 * ((k : Int))) + ((p : Int))))), .int (iI (((17 * ((k : Int))) + ((p : Int))) + 1)), .ref (yA Y 89)]) B dX8_layOut_70 rfl (c_X8_valueOf (l := xL X) (S := (us S 89 Dx)) hm hwD (jatF (mw (us S 89 Dx) n) ((p : Int))) (by omega) (by omega)) eX8_valueOf w1080 (by decide) rfl rfl (Nat.le_of_ble_eq_true rfl) (g_kE ?_)
              refine g_goto (q := 77) B dX8_layOut_73 (by decide) ?_
              refine g_iadd (q := 78) B dX8_layOut_77 rfl ?_
              refine g_iast (n := 89) (q := 79) B dX8_layOut_78 rfl (us_eq _ _ _) (fun _ => rfl) (by decide) (by omega) (by omega) ?_
              refine g_eqS (us_us _ _ _ _) ?_
              refine g_iinc (n := 4) (q := 82) B dX8_layOut_79 rfl rfl (by decide) (L' := [(3, .int (iI ((p : Int) + 1))), (4, .int (iI (jatF (mw (us S 89 Dx) n) ((p : Int))))), (0, .ref (yA Y 82)), (1, .ref (yA Y n)), (2, .int (iI ((k : Int))))]) rfl ?_
              refine g_goto (q := 19) B dX8_layOut_82 (by decide) ?_
              refine g_sub [2, 3, 4, 0] rfl ?_
              have hah : ahE (mw S n) k p = valF (mw (us S 89 Dx) n) (jatF (mw (us S 89 Dx) n) p) := by
                rw [mw_ne hn9] at cq64
                rw [ahE, mw_e S n (by omega) (by omega), mw_ne hn9]
                exact if_pos cq64
              have hEy : ∀ q : Nat, (q : Int) ≤ ((p + 1 : Nat) : Int) → (uq Dx (((17 * ((k : Int))) + ((p : Int))) + 1) ((Dx ((17 * ((k : Int))) + ((p : Int)))) + (valF (mw (us S 89 Dx) n) (jatF (mw (us S 89 Dx) n) ((p : Int)))))) (17 * k + q) = ahF (mw S n) k q := by
                intro q hq
                by_cases hq1 : (q : Int) = p + 1
                · rw [show q = p + 1 by omega, show 17 * (k : Int) + ((p + 1 : Nat) : Int) = 17 * k + p + 1 by omega, uq_eq, hE p (by omega), ahF, ahF, sm_s, hah]
                · rw [uq_ne _ _ (by omega)]; exact hE q (by omega)
              exact ih19 (p + 1) _ _ _ (by first | rfl | omega) (by first | rfl | omega) (by first | assumption | omega) (by intro k1 h0 h1 q hq; rw [uq_ne _ _ (by omega)]; exact hDx k1 h0 h1 q hq) (by exact hEy) (by first | assumption | omega) (by omega)
      refine g_iload_n (q := 3) B dX8_layOut_2 rfl 2 rfl ?_
      refine g_iconst (q := 4) B dX8_layOut_3 rfl ?_
      refine g_icmp_ge (t := 91) (q := 7) B dX8_layOut_4 (by decide) rfl ⟨by omega, by omega⟩ ⟨by omega, by omega⟩ (fun cq4 => ?_) (fun cq4 => ?_)
      · refine g_vret B E dX8_layOut_91 ?_
        refine ⟨rfl, D, fun k1 h0 h1 q hq => hD k1 h0 (by omega) q (by rw [mw_0] at hq; exact hq), rfl⟩
      · refine g_aload_n (q := 8) B dX8_layOut_7 rfl 0 rfl ?_
        refine g_get (n := 82) (ty := tyX8) (q := 11) (v := .ref (yA Y 89)) B dX8_layOut_8 rfl ((us_ne _ _ (by omega)).trans rfl) rfl cls6 9 (by decide) w960 rfl ?_
        refine g_bipush (q := 13) B dX8_layOut_11 rfl (by decide) ?_
        refine g_iload_n (q := 14) B dX8_layOut_13 rfl 2 rfl ?_
        refine g_imul (q := 15) B dX8_layOut_14 rfl ?_
        refine g_iconst (q := 16) B dX8_layOut_15 rfl ?_
        refine g_iast (n := 89) (q := 17) B dX8_layOut_16 rfl (us_eq _ _ _) (fun _ => rfl) (by decide) (by omega) (by omega) ?_
        refine g_eqS (us_us _ _ _ _) ?_
        refine g_iconst (q := 18) B dX8_layOut_17 rfl ?_
        refine g_istore_n (q := 19) B dX8_layOut_18 rfl (by decide) (L' := [(3, .int (iI 0)), (0, .ref (yA Y 82)), (1, .ref (yA Y n)), (2, .int (iI ((k : Int))))]) rfl ?_
        refine g_sub [1, 2, 3, 0] rfl ?_
        exact lp19 _ 0 _ _ _ (by first | rfl | omega) (by first | rfl | omega) (by first | assumption | omega) (by intro k1 h0 h1 q hq; rw [uq_ne _ _ (by omega)]; exact hD k1 h0 h1 q hq) (by intro q hq; rw [show q = 0 by omega]; exact (congrArg _ (show 17 * (k : Int) + ((0 : Nat) : Int) = 17 * k + 0 by omega)).trans (uq_eq _ _ _)) (by first | assumption | omega) (Nat.lt_succ_self _)
  refine g_iconst (q := 1) B dX8_layOut_0 rfl ?_
  refine g_istore_n (q := 2) B dX8_layOut_1 rfl (by decide) (L' := [(2, .int (iI 0)), (0, .ref (yA Y 82)), (1, .ref (yA Y n))]) rfl ?_
  refine g_sub [1, 2, 0] rfl ?_
  refine g_eqS ((us_id S 89).symm) ?_
  exact lp2 _ 0 (S 89) _ (by first | rfl | omega) (by first | assumption | omega) (by intro k1 h0 h1; omega) (Nat.lt_succ_self _)
set_option maxHeartbeats 4000000 in
theorem c_X8_gapTried {Y : gY} {l : Launch} {S : SS} {g : Int → Int} (hw : wf g) (hl : lay g (S 89)) (m c : Int) (hmg : m = g 0) (c0 : 0 ≤ c) (c1 : c ≤ 6) (ht : ways (g 0) c (S 90)) : gM Y l mX8_gapTried S [.ref (yA Y 82), .int (iI m), .int (iI c)] (pV (.int (iI (gapW g c (S 90)))) (fun S' => S' = S)) := by
  refine gM_of (by decide) (Nat.le_of_ble_eq_true rfl) ?_
  intro X hXl B E
  have hg16 := hw.1
  show gW Y X S 0 [(0, .ref (yA Y 82)), (1, .int (iI m)), (2, .int (iI c))] []
  have lp5 : ∀ (fu : Nat) (k : Nat) (x3 x4 : Int) , x3 = (sm (gpE g c (S 90)) k) → x4 = ((k : Int)) → k ≤ 4 → 4 - k < fu → gW Y X S 5 [(0, .ref (yA Y 82)), (1, .int (iI m)), (2, .int (iI c)), (3, .int (iI x3)), (4, .int (iI x4))] [] := by
    intro fu
    induction fu with
    | zero =>
      intro k x3 x4 e_x3 e_x4 hk hfu
      exact absurd hfu (Nat.not_lt_zero _)
    | succ fu ih =>
      intro k x3 x4 e_x3 e_x4 hk hfu
      subst e_x3
      subst e_x4
      have hgi := gapW_in hw ht c0 c1 k
      have lp20 : ∀ (fu : Nat) (n : Nat) (x3 x4 x5 x6 x7 : Int) , x3 = (sm (gpE g c (S 90)) k) → x4 = ((k : Int)) → x5 = (byW g (k : Int) c (S 90) n) → x6 = (frW (g 0) c (S 90) (n : Int)) → x7 = ((n : Int)) → (n : Int) ≤ c + 1 → k < 4 → 8 - n < fu → gW Y X S 20 [(0, .ref (yA Y 82)), (1, .int (iI m)), (2, .int (iI c)), (3, .int (iI x3)), (4, .int (iI x4)), (5, .int (iI x5)), (6, .int (iI x6)), (7, .int (iI x7))] [] := by
        intro fu
        induction fu with
        | zero =>
          intro n x3 x4 x5 x6 x7 e_x3 e_x4 e_x5 e_x6 e_x7 hn hk4 hfu
          exact absurd hfu (Nat.not_lt_zero _)
        | succ fu ih20 =>
          intro n x3 x4 x5 x6 x7 e_x3 e_x4 e_x5 e_x6 e_x7 hn hk4 hfu
          subst e_x3
          subst e_x4
          subst e_x5
          subst e_x6
          subst e_x7
          have hbi := byW_in hw (k : Int) ht n hn
          have hto := toW_in hw ht (n := (n : Int)) (by omega)
          have hfr := frW_in hw ht (n := (n : Int))
          have hA1 : S 89 (17 * (k : Int) + toW (g 0) c (S 90) n) = ahF g k (toW (g 0) c (S 90) n).toNat := by
            have h := hl k (by omega) (by omega) (toW (g 0) c (S 90) n).toNat (by omega)
            rwa [show (((toW (g 0) c (S 90) n).toNat : Nat) : Int) = toW (g 0) c (S 90) n by omega] at h
          have hA2 : S 89 (17 * (k : Int) + frW (g 0) c (S 90) n) = ahF g k (frW (g 0) c (S 90) n).toNat := by
            have h := hl k (by omega) (by omega) (frW (g 0) c (S 90) n).toNat (by omega)
            rwa [show (((frW (g 0) c (S 90) n).toNat : Nat) : Int) = frW (g 0) c (S 90) n by omega] at h
          have hB1 := ahF_b hw (k : Int) (toW (g 0) c (S 90) n).toNat (by omega)
          have hB2 := ahF_b hw (k : Int) (frW (g 0) c (S 90) n).toNat (by omega)
          have hse : seW g k c (S 90) n = ahF g k (toW (g 0) c (S 90) n).toNat - ahF g k (frW (g 0) c (S 90) n).toNat := rfl
          have hby : byW g k c (S 90) (n + 1) = byW g k c (S 90) n + (if (n : Int) % 2 = 0 then seW g k c (S 90) n else -(seW g k c (S 90) n)) := rfl
          have hf1 : frW (g 0) c (S 90) ((n + 1 : Nat) : Int) = toW (g 0) c (S 90) n := by
            rw [frW, if_neg (by omega)]; exact congrArg _ (by omega)
          refine g_iload (q := 22) B dX8_gapTried_20 rfl 7 rfl ?_
          refine g_iload_n (q := 23) B dX8_gapTried_22 rfl 2 rfl ?_
          refine g_icmp_gt (t := 104) (q := 26) B dX8_gapTried_23 (by decide) rfl ⟨by omega, by omega⟩ ⟨by omega, by omega⟩ (fun cq23 => ?_) (fun cq23 => ?_)
          · refine g_iload_n (q := 105) B dX8_gapTried_104 rfl 3 rfl ?_
            refine g_iload (q := 107) B dX8_gapTried_105 rfl 5 rfl ?_
            refine g_if_ge (t := 116) (q := 110) B dX8_gapTried_107 (by decide) rfl ⟨by omega, by omega⟩ (fun cq107 => ?_) (fun cq107 => ?_)
            · refine g_iload (q := 118) B dX8_gapTried_116 rfl 5 rfl ?_
              refine g_iadd (q := 119) B dX8_gapTried_118 rfl ?_
              refine g_istore_n (q := 120) B dX8_gapTried_119 rfl (by decide) (L' := [(3, .int (iI ((sm (gpE g c (S 90)) k) + (byW g (k : Int) c (S 90) n)))), (0, .ref (yA Y 82)), (1, .int (iI m)), (2, .int (iI c)), (4, .int (iI ((k : Int)))), (5, .int (iI (byW g (k : Int) c (S 90) n))), (6, .int (iI (frW (g 0) c (S 90) (n : Int)))), (7, .int (iI ((n : Int))))]) rfl ?_
              refine g_iinc (n := 4) (q := 123) B dX8_gapTried_120 rfl rfl (by decide) (L' := [(4, .int (iI ((k : Int) + 1))), (3, .int (iI ((sm (gpE g c (S 90)) k) + (byW g (k : Int) c (S 90) n)))), (0, .ref (yA Y 82)), (1, .int (iI m)), (2, .int (iI c)), (5, .int (iI (byW g (k : Int) c (S 90) n))), (6, .int (iI (frW (g 0) c (S 90) (n : Int)))), (7, .int (iI ((n : Int))))]) rfl ?_
              refine g_goto (q := 5) B dX8_gapTried_123 (by decide) ?_
              refine g_sub [2, 3, 4, 1, 0] rfl ?_
              have hbn : byW g (k : Int) c (S 90) (c.toNat + 1) = byW g (k : Int) c (S 90) n := by rw [show c.toNat + 1 = n by omega]
              exact ih (k + 1) _ _ (by first | rw [sm_s, gpE, absI, hbn, if_pos (by omega)] | rw [sm_s, gpE, absI, hbn, if_neg (by omega)]) (by first | rfl | omega) (by first | assumption | omega) (by omega)
            · refine g_iload (q := 112) B dX8_gapTried_110 rfl 5 rfl ?_
              refine g_ineg (q := 113) B dX8_gapTried_112 rfl ?_
              refine g_goto (q := 118) B dX8_gapTried_113 (by decide) ?_
              refine g_iadd (q := 119) B dX8_gapTried_118 rfl ?_
              refine g_istore_n (q := 120) B dX8_gapTried_119 rfl (by decide) (L' := [(3, .int (iI ((sm (gpE g c (S 90)) k) + (-(byW g (k : Int) c (S 90) n))))), (0, .ref (yA Y 82)), (1, .int (iI m)), (2, .int (iI c)), (4, .int (iI ((k : Int)))), (5, .int (iI (byW g (k : Int) c (S 90) n))), (6, .int (iI (frW (g 0) c (S 90) (n : Int)))), (7, .int (iI ((n : Int))))]) rfl ?_
              refine g_iinc (n := 4) (q := 123) B dX8_gapTried_120 rfl rfl (by decide) (L' := [(4, .int (iI ((k : Int) + 1))), (3, .int (iI ((sm (gpE g c (S 90)) k) + (-(byW g (k : Int) c (S 90) n))))), (0, .ref (yA Y 82)), (1, .int (iI m)), (2, .int (iI c)), (5, .int (iI (byW g (k : Int) c (S 90) n))), (6, .int (iI (frW (g 0) c (S 90) (n : Int)))), (7, .int (iI ((n : Int))))]) rfl ?_
              refine g_goto (q := 5) B dX8_gapTried_123 (by decide) ?_
              refine g_sub [2, 3, 4, 1, 0] rfl ?_
              have hbn : byW g (k : Int) c (S 90) (c.toNat + 1) = byW g (k : Int) c (S 90) n := by rw [show c.toNat + 1 = n by omega]
              exact ih (k + 1) _ _ (by first | rw [sm_s, gpE, absI, hbn, if_pos (by omega)] | rw [sm_s, gpE, absI, hbn, if_neg (by omega)]) (by first | rfl | omega) (by first | assumption | omega) (by omega)
          · refine g_iload (q := 28) B dX8_gapTried_26 rfl 7 rfl ?_
            refine g_iload_n (q := 29) B dX8_gapTried_28 rfl 2 rfl ?_
            refine g_icmp_ge (t := 42) (q := 32) B dX8_gapTried_29 (by decide) rfl ⟨by omega, by omega⟩ ⟨by omega, by omega⟩ (fun cq29 => ?_) (fun cq29 => ?_)
            · refine g_iload_n (q := 43) B dX8_gapTried_42 rfl 1 rfl ?_
              refine g_eqT (st' := [.int (iI (toW (g 0) c (S 90) (n : Int)))]) (congrArg (fun z => Value.int (iI z) :: []) (show m = toW (g 0) c (S 90) (n : Int) by first | (rw [toW, if_pos (by omega)]; done) | (rw [toW, if_neg (by omega)]; exact hmg))) ?_
              refine g_istore (q := 45) B dX8_gapTried_43 rfl (by decide) (L' := [(8, .int (iI (toW (g 0) c (S 90) (n : Int)))), (0, .ref (yA Y 82)), (1, .int (iI m)), (2, .int (iI c)), (3, .int (iI (sm (gpE g c (S 90)) k))), (4, .int (iI ((k : Int)))), (5, .int (iI (byW g (k : Int) c (S 90) n))), (6, .int (iI (frW (g 0) c (S 90) (n : Int)))), (7, .int (iI ((n : Int))))]) rfl ?_
              refine g_aload_n (q := 46) B dX8_gapTried_45 rfl 1 rfl ?_
              refine g_get (n := 82) (ty := tyX8) (q := 49) (v := .ref (yA Y 89)) B dX8_gapTried_46 rfl rfl rfl cls6 9 (by decide) w960 rfl ?_
              refine g_bipush (q := 51) B dX8_gapTried_49 rfl (by decide) ?_
              refine g_iload (q := 53) B dX8_gapTried_51 rfl 5 rfl ?_
              refine g_imul (q := 54) B dX8_gapTried_53 rfl ?_
              refine g_iload (q := 56) B dX8_gapTried_54 rfl 0 rfl ?_
              refine g_iadd (q := 57) B dX8_gapTried_56 rfl ?_
              refine g_iald (n := 89) (q := 58) B dX8_gapTried_57 rfl rfl rfl (by decide) (by omega) (by omega) ?_
              refine g_aload_n (q := 59) B dX8_gapTried_58 rfl 1 rfl ?_
              refine g_get (n := 82) (ty := tyX8) (q := 62) (v := .ref (yA Y 89)) B dX8_gapTried_59 rfl rfl rfl cls6 9 (by decide) w960 rfl ?_
              refine g_bipush (q := 64) B dX8_gapTried_62 rfl (by decide) ?_
              refine g_iload (q := 66) B dX8_gapTried_64 rfl 5 rfl ?_
              refine g_imul (q := 67) B dX8_gapTried_66 rfl ?_
              refine g_iload (q := 69) B dX8_gapTried_67 rfl 7 rfl ?_
              refine g_iadd (q := 70) B dX8_gapTried_69 rfl ?_
              refine g_iald (n := 89) (q := 71) B dX8_gapTried_70 rfl rfl rfl (by decide) (by omega) (by omega) ?_
              refine g_isub (q := 72) B dX8_gapTried_71 rfl ?_
              refine g_istore (q := 74) B dX8_gapTried_72 rfl (by decide) (L' := [(9, .int (iI ((S 89 ((17 * ((k : Int))) + (toW (g 0) c (S 90) (n : Int)))) - (S 89 ((17 * ((k : Int))) + (frW (g 0) c (S 90) (n : Int))))))), (8, .int (iI (toW (g 0) c (S 90) (n : Int)))), (0, .ref (yA Y 82)), (1, .int (iI m)), (2, .int (iI c)), (3, .int (iI (sm (gpE g c (S 90)) k))), (4, .int (iI ((k : Int)))), (5, .int (iI (byW g (k : Int) c (S 90) n))), (6, .int (iI (frW (g 0) c (S 90) (n : Int)))), (7, .int (iI ((n : Int))))]) rfl ?_
              refine g_iload (q := 76) B dX8_gapTried_74 rfl 7 rfl ?_
              refine g_iload (q := 78) B dX8_gapTried_76 rfl 9 rfl ?_
              refine g_iconst (q := 79) B dX8_gapTried_78 rfl ?_
              refine g_irem (q := 80) B dX8_gapTried_79 rfl (by omega) (by omega) (by omega) (by omega) ?_
              refine g_if_ne (t := 88) (q := 83) B dX8_gapTried_80 (by decide) rfl ⟨by omega, by omega⟩ (fun cq80 => ?_) (fun cq80 => ?_)
              · refine g_iload (q := 90) B dX8_gapTried_88 rfl 0 rfl ?_
                refine g_ineg (q := 91) B dX8_gapTried_90 rfl ?_
                refine g_iadd (q := 92) B dX8_gapTried_91 rfl ?_
                refine g_istore (q := 94) B dX8_gapTried_92 rfl (by decide) (L' := [(5, .int (iI ((byW g (k : Int) c (S 90) n) + (-((S 89 ((17 * ((k : Int))) + (toW (g 0) c (S 90) (n : Int)))) - (S 89 ((17 * ((k : Int))) + (frW (g 0) c (S 90) (n : Int))))))))), (9, .int (iI ((S 89 ((17 * ((k : Int))) + (toW (g 0) c (S 90) (n : Int)))) - (S 89 ((17 * ((k : Int))) + (frW (g 0) c (S 90) (n : Int))))))), (8, .int (iI (toW (g 0) c (S 90) (n : Int)))), (0, .ref (yA Y 82)), (1, .int (iI m)), (2, .int (iI c)), (3, .int (iI (sm (gpE g c (S 90)) k))), (4, .int (iI ((k : Int)))), (6, .int (iI (frW (g 0) c (S 90) (n : Int)))), (7, .int (iI ((n : Int))))]) rfl ?_
                refine g_iload (q := 96) B dX8_gapTried_94 rfl 2 rfl ?_
                refine g_istore (q := 98) B dX8_gapTried_96 rfl (by decide) (L' := [(6, .int (iI (toW (g 0) c (S 90) (n : Int)))), (5, .int (iI ((byW g (k : Int) c (S 90) n) + (-((S 89 ((17 * ((k : Int))) + (toW (g 0) c (S 90) (n : Int)))) - (S 89 ((17 * ((k : Int))) + (frW (g 0) c (S 90) (n : Int))))))))), (9, .int (iI ((S 89 ((17 * ((k : Int))) + (toW (g 0) c (S 90) (n : Int)))) - (S 89 ((17 * ((k : Int))) + (frW (g 0) c (S 90) (n : Int))))))), (8, .int (iI (toW (g 0) c (S 90) (n : Int)))), (0, .ref (yA Y 82)), (1, .int (iI m)), (2, .int (iI c)), (3, .int (iI (sm (gpE g c (S 90)) k))), (4, .int (iI ((k : Int)))), (7, .int (iI ((n : Int))))]) rfl ?_
                refine g_iinc (n := 9) (q := 101) B dX8_gapTried_98 rfl rfl (by decide) (L' := [(7, .int (iI ((n : Int) + 1))), (6, .int (iI (toW (g 0) c (S 90) (n : Int)))), (5, .int (iI ((byW g (k : Int) c (S 90) n) + (-((S 89 ((17 * ((k : Int))) + (toW (g 0) c (S 90) (n : Int)))) - (S 89 ((17 * ((k : Int))) + (frW (g 0) c (S 90) (n : Int))))))))), (9, .int (iI ((S 89 ((17 * ((k : Int))) + (toW (g 0) c (S 90) (n : Int)))) - (S 89 ((17 * ((k : Int))) + (frW (g 0) c (S 90) (n : Int))))))), (8, .int (iI (toW (g 0) c (S 90) (n : Int)))), (0, .ref (yA Y 82)), (1, .int (iI m)), (2, .int (iI c)), (3, .int (iI (sm (gpE g c (S 90)) k))), (4, .int (iI ((k : Int))))]) rfl ?_
                refine g_goto (q := 20) B dX8_gapTried_101 (by decide) ?_
                refine g_sub [5, 6, 7, 8, 9, 2, 1, 0] rfl ?_
                exact ih20 (n + 1) _ _ _ _ _ (by first | rfl | omega) (by first | rfl | omega) (by rw [hby]; split <;> omega) (by first | rfl | omega) (by first | rfl | omega) (by first | assumption | omega) (by first | assumption | omega) (by omega)
              · refine g_iload (q := 85) B dX8_gapTried_83 rfl 0 rfl ?_
                refine g_goto (q := 91) B dX8_gapTried_85 (by decide) ?_
                refine g_iadd (q := 92) B dX8_gapTried_91 rfl ?_
                refine g_istore (q := 94) B dX8_gapTried_92 rfl (by decide) (L' := [(5, .int (iI ((byW g (k : Int) c (S 90) n) + ((S 89 ((17 * ((k : Int))) + (toW (g 0) c (S 90) (n : Int)))) - (S 89 ((17 * ((k : Int))) + (frW (g 0) c (S 90) (n : Int)))))))), (9, .int (iI ((S 89 ((17 * ((k : Int))) + (toW (g 0) c (S 90) (n : Int)))) - (S 89 ((17 * ((k : Int))) + (frW (g 0) c (S 90) (n : Int))))))), (8, .int (iI (toW (g 0) c (S 90) (n : Int)))), (0, .ref (yA Y 82)), (1, .int (iI m)), (2, .int (iI c)), (3, .int (iI (sm (gpE g c (S 90)) k))), (4, .int (iI ((k : Int)))), (6, .int (iI (frW (g 0) c (S 90) (n : Int)))), (7, .int (iI ((n : Int))))]) rfl ?_
                refine g_iload (q := 96) B dX8_gapTried_94 rfl 2 rfl ?_
                refine g_istore (q := 98) B dX8_gapTried_96 rfl (by decide) (L' := [(6, .int (iI (toW (g 0) c (S 90) (n : Int)))), (5, .int (iI ((byW g (k : Int) c (S 90) n) + ((S 89 ((17 * ((k : Int))) + (toW (g 0) c (S 90) (n : Int)))) - (S 89 ((17 * ((k : Int))) + (frW (g 0) c (S 90) (n : Int)))))))), (9, .int (iI ((S 89 ((17 * ((k : Int))) + (toW (g 0) c (S 90) (n : Int)))) - (S 89 ((17 * ((k : Int))) + (frW (g 0) c (S 90) (n : Int))))))), (8, .int (iI (toW (g 0) c (S 90) (n : Int)))), (0, .ref (yA Y 82)), (1, .int (iI m)), (2, .int (iI c)), (3, .int (iI (sm (gpE g c (S 90)) k))), (4, .int (iI ((k : Int)))), (7, .int (iI ((n : Int))))]) rfl ?_
                refine g_iinc (n := 9) (q := 101) B dX8_gapTried_98 rfl rfl (by decide) (L' := [(7, .int (iI ((n : Int) + 1))), (6, .int (iI (toW (g 0) c (S 90) (n : Int)))), (5, .int (iI ((byW g (k : Int) c (S 90) n) + ((S 89 ((17 * ((k : Int))) + (toW (g 0) c (S 90) (n : Int)))) - (S 89 ((17 * ((k : Int))) + (frW (g 0) c (S 90) (n : Int)))))))), (9, .int (iI ((S 89 ((17 * ((k : Int))) + (toW (g 0) c (S 90) (n : Int)))) - (S 89 ((17 * ((k : Int))) + (frW (g 0) c (S 90) (n : Int))))))), (8, .int (iI (toW (g 0) c (S 90) (n : Int)))), (0, .ref (yA Y 82)), (1, .int (iI m)), (2, .int (iI c)), (3, .int (iI (sm (gpE g c (S 90)) k))), (4, .int (iI ((k : Int))))]) rfl ?_
                refine g_goto (q := 20) B dX8_gapTried_101 (by decide) ?_
                refine g_sub [5, 6, 7, 8, 9, 2, 1, 0] rfl ?_
                exact ih20 (n + 1) _ _ _ _ _ (by first | rfl | omega) (by first | rfl | omega) (by rw [hby]; split <;> omega) (by first | rfl | omega) (by first | rfl | omega) (by first | assumption | omega) (by first | assumption | omega) (by omega)
            · refine g_aload_n (q := 33) B dX8_gapTried_32 rfl 0 rfl ?_
              refine g_get (n := 82) (ty := tyX8) (q := 36) (v := .ref (yA Y 90)) B dX8_gapTried_33 rfl rfl rfl cls6 10 (by decide) w961 rfl ?_
              refine g_iload (q := 38) B dX8_gapTried_36 rfl 7 rfl ?_
              refine g_iald (n := 90) (q := 39) B dX8_gapTried_38 rfl rfl rfl (by decide) (by omega) (by omega) ?_
              refine g_goto (q := 43) B dX8_gapTried_39 (by decide) ?_
              refine g_eqT (st' := [.int (iI (toW (g 0) c (S 90) (n : Int)))]) (congrArg (fun z => Value.int (iI z) :: []) (show S 90 ((n : Int)) = toW (g 0) c (S 90) (n : Int) by first | (rw [toW, if_pos (by omega)]; done) | (rw [toW, if_neg (by omega)]; exact hmg))) ?_
              refine g_istore (q := 45) B dX8_gapTried_43 rfl (by decide) (L' := [(8, .int (iI (toW (g 0) c (S 90) (n : Int)))), (0, .ref (yA Y 82)), (1, .int (iI m)), (2, .int (iI c)), (3, .int (iI (sm (gpE g c (S 90)) k))), (4, .int (iI ((k : Int)))), (5, .int (iI (byW g (k : Int) c (S 90) n))), (6, .int (iI (frW (g 0) c (S 90) (n : Int)))), (7, .int (iI ((n : Int))))]) rfl ?_
              refine g_aload_n (q := 46) B dX8_gapTried_45 rfl 1 rfl ?_
              refine g_get (n := 82) (ty := tyX8) (q := 49) (v := .ref (yA Y 89)) B dX8_gapTried_46 rfl rfl rfl cls6 9 (by decide) w960 rfl ?_
              refine g_bipush (q := 51) B dX8_gapTried_49 rfl (by decide) ?_
              refine g_iload (q := 53) B dX8_gapTried_51 rfl 5 rfl ?_
              refine g_imul (q := 54) B dX8_gapTried_53 rfl ?_
              refine g_iload (q := 56) B dX8_gapTried_54 rfl 0 rfl ?_
              refine g_iadd (q := 57) B dX8_gapTried_56 rfl ?_
              refine g_iald (n := 89) (q := 58) B dX8_gapTried_57 rfl rfl rfl (by decide) (by omega) (by omega) ?_
              refine g_aload_n (q := 59) B dX8_gapTried_58 rfl 1 rfl ?_
              refine g_get (n := 82) (ty := tyX8) (q := 62) (v := .ref (yA Y 89)) B dX8_gapTried_59 rfl rfl rfl cls6 9 (by decide) w960 rfl ?_
              refine g_bipush (q := 64) B dX8_gapTried_62 rfl (by decide) ?_
              refine g_iload (q := 66) B dX8_gapTried_64 rfl 5 rfl ?_
              refine g_imul (q := 67) B dX8_gapTried_66 rfl ?_
              refine g_iload (q := 69) B dX8_gapTried_67 rfl 7 rfl ?_
              refine g_iadd (q := 70) B dX8_gapTried_69 rfl ?_
              refine g_iald (n := 89) (q := 71) B dX8_gapTried_70 rfl rfl rfl (by decide) (by omega) (by omega) ?_
              refine g_isub (q := 72) B dX8_gapTried_71 rfl ?_
              refine g_istore (q := 74) B dX8_gapTried_72 rfl (by decide) (L' := [(9, .int (iI ((S 89 ((17 * ((k : Int))) + (toW (g 0) c (S 90) (n : Int)))) - (S 89 ((17 * ((k : Int))) + (frW (g 0) c (S 90) (n : Int))))))), (8, .int (iI (toW (g 0) c (S 90) (n : Int)))), (0, .ref (yA Y 82)), (1, .int (iI m)), (2, .int (iI c)), (3, .int (iI (sm (gpE g c (S 90)) k))), (4, .int (iI ((k : Int)))), (5, .int (iI (byW g (k : Int) c (S 90) n))), (6, .int (iI (frW (g 0) c (S 90) (n : Int)))), (7, .int (iI ((n : Int))))]) rfl ?_
              refine g_iload (q := 76) B dX8_gapTried_74 rfl 7 rfl ?_
              refine g_iload (q := 78) B dX8_gapTried_76 rfl 9 rfl ?_
              refine g_iconst (q := 79) B dX8_gapTried_78 rfl ?_
              refine g_irem (q := 80) B dX8_gapTried_79 rfl (by omega) (by omega) (by omega) (by omega) ?_
              refine g_if_ne (t := 88) (q := 83) B dX8_gapTried_80 (by decide) rfl ⟨by omega, by omega⟩ (fun cq80 => ?_) (fun cq80 => ?_)
              · refine g_iload (q := 90) B dX8_gapTried_88 rfl 0 rfl ?_
                refine g_ineg (q := 91) B dX8_gapTried_90 rfl ?_
                refine g_iadd (q := 92) B dX8_gapTried_91 rfl ?_
                refine g_istore (q := 94) B dX8_gapTried_92 rfl (by decide) (L' := [(5, .int (iI ((byW g (k : Int) c (S 90) n) + (-((S 89 ((17 * ((k : Int))) + (toW (g 0) c (S 90) (n : Int)))) - (S 89 ((17 * ((k : Int))) + (frW (g 0) c (S 90) (n : Int))))))))), (9, .int (iI ((S 89 ((17 * ((k : Int))) + (toW (g 0) c (S 90) (n : Int)))) - (S 89 ((17 * ((k : Int))) + (frW (g 0) c (S 90) (n : Int))))))), (8, .int (iI (toW (g 0) c (S 90) (n : Int)))), (0, .ref (yA Y 82)), (1, .int (iI m)), (2, .int (iI c)), (3, .int (iI (sm (gpE g c (S 90)) k))), (4, .int (iI ((k : Int)))), (6, .int (iI (frW (g 0) c (S 90) (n : Int)))), (7, .int (iI ((n : Int))))]) rfl ?_
                refine g_iload (q := 96) B dX8_gapTried_94 rfl 2 rfl ?_
                refine g_istore (q := 98) B dX8_gapTried_96 rfl (by decide) (L' := [(6, .int (iI (toW (g 0) c (S 90) (n : Int)))), (5, .int (iI ((byW g (k : Int) c (S 90) n) + (-((S 89 ((17 * ((k : Int))) + (toW (g 0) c (S 90) (n : Int)))) - (S 89 ((17 * ((k : Int))) + (frW (g 0) c (S 90) (n : Int))))))))), (9, .int (iI ((S 89 ((17 * ((k : Int))) + (toW (g 0) c (S 90) (n : Int)))) - (S 89 ((17 * ((k : Int))) + (frW (g 0) c (S 90) (n : Int))))))), (8, .int (iI (toW (g 0) c (S 90) (n : Int)))), (0, .ref (yA Y 82)), (1, .int (iI m)), (2, .int (iI c)), (3, .int (iI (sm (gpE g c (S 90)) k))), (4, .int (iI ((k : Int)))), (7, .int (iI ((n : Int))))]) rfl ?_
                refine g_iinc (n := 9) (q := 101) B dX8_gapTried_98 rfl rfl (by decide) (L' := [(7, .int (iI ((n : Int) + 1))), (6, .int (iI (toW (g 0) c (S 90) (n : Int)))), (5, .int (iI ((byW g (k : Int) c (S 90) n) + (-((S 89 ((17 * ((k : Int))) + (toW (g 0) c (S 90) (n : Int)))) - (S 89 ((17 * ((k : Int))) + (frW (g 0) c (S 90) (n : Int))))))))), (9, .int (iI ((S 89 ((17 * ((k : Int))) + (toW (g 0) c (S 90) (n : Int)))) - (S 89 ((17 * ((k : Int))) + (frW (g 0) c (S 90) (n : Int))))))), (8, .int (iI (toW (g 0) c (S 90) (n : Int)))), (0, .ref (yA Y 82)), (1, .int (iI m)), (2, .int (iI c)), (3, .int (iI (sm (gpE g c (S 90)) k))), (4, .int (iI ((k : Int))))]) rfl ?_
                refine g_goto (q := 20) B dX8_gapTried_101 (by decide) ?_
                refine g_sub [5, 6, 7, 8, 9, 2, 1, 0] rfl ?_
                exact ih20 (n + 1) _ _ _ _ _ (by first | rfl | omega) (by first | rfl | omega) (by rw [hby]; split <;> omega) (by first | rfl | omega) (by first | rfl | omega) (by first | assumption | omega) (by first | assumption | omega) (by omega)
              · refine g_iload (q := 85) B dX8_gapTried_83 rfl 0 rfl ?_
                refine g_goto (q := 91) B dX8_gapTried_85 (by decide) ?_
                refine g_iadd (q := 92) B dX8_gapTried_91 rfl ?_
                refine g_istore (q := 94) B dX8_gapTried_92 rfl (by decide) (L' := [(5, .int (iI ((byW g (k : Int) c (S 90) n) + ((S 89 ((17 * ((k : Int))) + (toW (g 0) c (S 90) (n : Int)))) - (S 89 ((17 * ((k : Int))) + (frW (g 0) c (S 90) (n : Int)))))))), (9, .int (iI ((S 89 ((17 * ((k : Int))) + (toW (g 0) c (S 90) (n : Int)))) - (S 89 ((17 * ((k : Int))) + (frW (g 0) c (S 90) (n : Int))))))), (8, .int (iI (toW (g 0) c (S 90) (n : Int)))), (0, .ref (yA Y 82)), (1, .int (iI m)), (2, .int (iI c)), (3, .int (iI (sm (gpE g c (S 90)) k))), (4, .int (iI ((k : Int)))), (6, .int (iI (frW (g 0) c (S 90) (n : Int)))), (7, .int (iI ((n : Int))))]) rfl ?_
                refine g_iload (q := 96) B dX8_gapTried_94 rfl 2 rfl ?_
                refine g_istore (q := 98) B dX8_gapTried_96 rfl (by decide) (L' := [(6, .int (iI (toW (g 0) c (S 90) (n : Int)))), (5, .int (iI ((byW g (k : Int) c (S 90) n) + ((S 89 ((17 * ((k : Int))) + (toW (g 0) c (S 90) (n : Int)))) - (S 89 ((17 * ((k : Int))) + (frW (g 0) c (S 90) (n : Int)))))))), (9, .int (iI ((S 89 ((17 * ((k : Int))) + (toW (g 0) c (S 90) (n : Int)))) - (S 89 ((17 * ((k : Int))) + (frW (g 0) c (S 90) (n : Int))))))), (8, .int (iI (toW (g 0) c (S 90) (n : Int)))), (0, .ref (yA Y 82)), (1, .int (iI m)), (2, .int (iI c)), (3, .int (iI (sm (gpE g c (S 90)) k))), (4, .int (iI ((k : Int)))), (7, .int (iI ((n : Int))))]) rfl ?_
                refine g_iinc (n := 9) (q := 101) B dX8_gapTried_98 rfl rfl (by decide) (L' := [(7, .int (iI ((n : Int) + 1))), (6, .int (iI (toW (g 0) c (S 90) (n : Int)))), (5, .int (iI ((byW g (k : Int) c (S 90) n) + ((S 89 ((17 * ((k : Int))) + (toW (g 0) c (S 90) (n : Int)))) - (S 89 ((17 * ((k : Int))) + (frW (g 0) c (S 90) (n : Int)))))))), (9, .int (iI ((S 89 ((17 * ((k : Int))) + (toW (g 0) c (S 90) (n : Int)))) - (S 89 ((17 * ((k : Int))) + (frW (g 0) c (S 90) (n : Int))))))), (8, .int (iI (toW (g 0) c (S 90) (n : Int)))), (0, .ref (yA Y 82)), (1, .int (iI m)), (2, .int (iI c)), (3, .int (iI (sm (gpE g c (S 90)) k))), (4, .int (iI ((k : Int))))]) rfl ?_
                refine g_goto (q := 20) B dX8_gapTried_101 (by decide) ?_
                refine g_sub [5, 6, 7, 8, 9, 2, 1, 0] rfl ?_
                exact ih20 (n + 1) _ _ _ _ _ (by first | rfl | omega) (by first | rfl | omega) (by rw [hby]; split <;> omega) (by first | rfl | omega) (by first | rfl | omega) (by first | assumption | omega) (by first | assumption | omega) (by omega)
      refine g_iload (q := 7) B dX8_gapTried_5 rfl 4 rfl ?_
      refine g_iconst (q := 8) B dX8_gapTried_7 rfl ?_
      refine g_icmp_ge (t := 126) (q := 11) B dX8_gapTried_8 (by decide) rfl ⟨by omega, by omega⟩ ⟨by omega, by omega⟩ (fun cq8 => ?_) (fun cq8 => ?_)
      · refine g_iload_n (q := 127) B dX8_gapTried_126 rfl 3 rfl ?_
        refine g_iret B E dX8_gapTried_127 ?_
        exact ⟨by rw [gapW, show k = 4 by omega], rfl⟩
      · refine g_iconst (q := 12) B dX8_gapTried_11 rfl ?_
        refine g_istore (q := 14) B dX8_gapTried_12 rfl (by decide) (L' := [(5, .int (iI 0)), (0, .ref (yA Y 82)), (1, .int (iI m)), (2, .int (iI c)), (3, .int (iI (sm (gpE g c (S 90)) k))), (4, .int (iI ((k : Int))))]) rfl ?_
        refine g_iconst (q := 15) B dX8_gapTried_14 rfl ?_
        refine g_istore (q := 17) B dX8_gapTried_15 rfl (by decide) (L' := [(6, .int (iI 0)), (5, .int (iI 0)), (0, .ref (yA Y 82)), (1, .int (iI m)), (2, .int (iI c)), (3, .int (iI (sm (gpE g c (S 90)) k))), (4, .int (iI ((k : Int))))]) rfl ?_
        refine g_iconst (q := 18) B dX8_gapTried_17 rfl ?_
        refine g_istore (q := 20) B dX8_gapTried_18 rfl (by decide) (L' := [(7, .int (iI 0)), (6, .int (iI 0)), (5, .int (iI 0)), (0, .ref (yA Y 82)), (1, .int (iI m)), (2, .int (iI c)), (3, .int (iI (sm (gpE g c (S 90)) k))), (4, .int (iI ((k : Int))))]) rfl ?_
        refine g_sub [3, 4, 5, 6, 7, 2, 1, 0] rfl ?_
        exact lp20 _ 0 _ _ _ _ _ (by first | rfl | omega) (by first | rfl | omega) (by first | rfl | omega) (by first | rfl | omega) (by first | rfl | omega) (by first | assumption | omega) (by first | assumption | omega) (Nat.lt_succ_self _)
  refine g_iconst (q := 1) B dX8_gapTried_0 rfl ?_
  refine g_istore_n (q := 2) B dX8_gapTried_1 rfl (by decide) (L' := [(3, .int (iI 0)), (0, .ref (yA Y 82)), (1, .int (iI m)), (2, .int (iI c))]) rfl ?_
  refine g_iconst (q := 3) B dX8_gapTried_2 rfl ?_
  refine g_istore (q := 5) B dX8_gapTried_3 rfl (by decide) (L' := [(4, .int (iI 0)), (3, .int (iI 0)), (0, .ref (yA Y 82)), (1, .int (iI m)), (2, .int (iI c))]) rfl ?_
  refine g_sub [2, 3, 4, 1, 0] rfl ?_
  exact lp5 _ 0 _ _ (by first | rfl | omega) (by first | rfl | omega) (by first | assumption | omega) (Nat.lt_succ_self _)
set_option maxHeartbeats 4000000 in
theorem c_X8_firstWay {Y : gY} {l : Launch} {S : SS} (m c : Int) (hm : 0 ≤ m ∧ m ≤ 16) (c0 : 0 ≤ c) (c1 : c ≤ 6) : gM Y l mX8_firstWay S [.ref (yA Y 82), .int (iI m), .int (iI c)] (pV (.int (bI (c < m ∨ c = 0))) (fun S' => S' = us S 90 (fwT (S 90) c.toNat))) := by
  refine gM_of (by decide) (Nat.le_of_ble_eq_true rfl) ?_
  intro X hXl B E
  show gW Y X S 0 [(0, .ref (yA Y 82)), (1, .int (iI m)), (2, .int (iI c))] []
  have lp2 : ∀ (fu : Nat) (k : Nat) (x3 : Int) , x3 = ((k : Int)) → (k : Int) ≤ c → 7 - k < fu → gW Y X (us S 90 (fwT (S 90) k)) 2 [(0, .ref (yA Y 82)), (1, .int (iI m)), (2, .int (iI c)), (3, .int (iI x3))] [] := by
    intro fu
    induction fu with
    | zero =>
      intro k x3 e_x3 hk hfu
      exact absurd hfu (Nat.not_lt_zero _)
    | succ fu ih =>
      intro k x3 e_x3 hk hfu
      subst e_x3
      refine g_iload_n (q := 3) B dX8_firstWay_2 rfl 3 rfl ?_
      refine g_iload_n (q := 4) B dX8_firstWay_3 rfl 2 rfl ?_
      refine g_icmp_ge (t := 22) (q := 7) B dX8_firstWay_4 (by decide) rfl ⟨by omega, by omega⟩ ⟨by omega, by omega⟩ (fun cq4 => ?_) (fun cq4 => ?_)
      · refine g_iload_n (q := 23) B dX8_firstWay_22 rfl 2 rfl ?_
        refine g_iload_n (q := 24) B dX8_firstWay_23 rfl 1 rfl ?_
        refine g_icmp_lt (t := 31) (q := 27) B dX8_firstWay_24 (by decide) rfl ⟨by omega, by omega⟩ ⟨by omega, by omega⟩ (fun cq24 => ?_) (fun cq24 => ?_)
        · refine g_iconst (q := 32) B dX8_firstWay_31 rfl ?_
          refine g_goto (q := 36) B dX8_firstWay_32 (by decide) ?_
          refine g_zret B E dX8_firstWay_36 rfl (by decide) ?_
          exact ⟨zt (by omega), by rw [show c.toNat = k by omega]⟩
        · refine g_iload_n (q := 28) B dX8_firstWay_27 rfl 2 rfl ?_
          refine g_if_ne (t := 35) (q := 31) B dX8_firstWay_28 (by decide) rfl ⟨by omega, by omega⟩ (fun cq28 => ?_) (fun cq28 => ?_)
          · refine g_iconst (q := 36) B dX8_firstWay_35 rfl ?_
            refine g_zret B E dX8_firstWay_36 rfl (by decide) ?_
            exact ⟨zf (by omega), by rw [show c.toNat = k by omega]⟩
          · refine g_iconst (q := 32) B dX8_firstWay_31 rfl ?_
            refine g_goto (q := 36) B dX8_firstWay_32 (by decide) ?_
            refine g_zret B E dX8_firstWay_36 rfl (by decide) ?_
            exact ⟨zt (by omega), by rw [show c.toNat = k by omega]⟩
      · refine g_aload_n (q := 8) B dX8_firstWay_7 rfl 0 rfl ?_
        refine g_get (n := 82) (ty := tyX8) (q := 11) (v := .ref (yA Y 90)) B dX8_firstWay_8 rfl ((us_ne _ _ (by omega)).trans rfl) rfl cls6 10 (by decide) w961 rfl ?_
        refine g_iload_n (q := 12) B dX8_firstWay_11 rfl 3 rfl ?_
        refine g_iload_n (q := 13) B dX8_firstWay_12 rfl 3 rfl ?_
        refine g_iconst (q := 14) B dX8_firstWay_13 rfl ?_
        refine g_iadd (q := 15) B dX8_firstWay_14 rfl ?_
        refine g_iast (n := 90) (q := 16) B dX8_firstWay_15 rfl (us_eq _ _ _) (fun _ => rfl) (by decide) (by omega) (by omega) ?_
        refine g_eqS (us_us _ _ _ _) ?_
        refine g_iinc (n := 3) (q := 19) B dX8_firstWay_16 rfl rfl (by decide) (L' := [(3, .int (iI ((k : Int) + 1))), (0, .ref (yA Y 82)), (1, .int (iI m)), (2, .int (iI c))]) rfl ?_
        refine g_goto (q := 2) B dX8_firstWay_19 (by decide) ?_
        refine g_sub [1, 2, 3, 0] rfl ?_
        refine g_eqS ((show us S 90 (uq (fwT (S 90) k) k ((k : Int) + 1)) = us S 90 (fwT (S 90) (k + 1)) by rw [fwT_s])) ?_
        exact ih (k + 1) _ (by first | rfl | omega) (by first | assumption | omega) (by omega)
  refine g_iconst (q := 1) B dX8_firstWay_0 rfl ?_
  refine g_istore_n (q := 2) B dX8_firstWay_1 rfl (by decide) (L' := [(3, .int (iI 0)), (0, .ref (yA Y 82)), (1, .int (iI m)), (2, .int (iI c))]) rfl ?_
  refine g_sub [1, 2, 3, 0] rfl ?_
  refine g_eqS ((show S = us S 90 (fwT (S 90) 0) by rw [fwT_0, us_id])) ?_
  exact lp2 _ 0 _ (by first | rfl | omega) (by first | assumption | omega) (Nat.lt_succ_self _)
set_option maxHeartbeats 4000000 in
theorem c_X8_nextWay {Y : gY} {l : Launch} {S : SS} (m c : Int) (hm : 0 ≤ m ∧ m ≤ 16) (c0 : 0 ≤ c) (c1 : c ≤ 6) (ht : ways m c (S 90)) : gM Y l mX8_nextWay S [.ref (yA Y 82), .int (iI m), .int (iI c)] (pV (.int (bI (0 ≤ nxI m c (S 90) c.toNat))) (fun S' => S' = us S 90 (nxT m c (S 90)))) := by
  refine gM_of (by decide) (Nat.le_of_ble_eq_true rfl) ?_
  intro X hXl B E
  obtain ⟨hx1, hx2, hx3⟩ := nxI_s m c (S 90) c.toNat
  have htw : ∀ j : Int, 0 ≤ j → j < c → j + 1 ≤ S 90 j ∧ S 90 j ≤ m - c + j := fun j j0 j1 => (ht j j0 j1).1
  show gW Y X S 0 [(0, .ref (yA Y 82)), (1, .int (iI m)), (2, .int (iI c))] []
  have lp49 : ∀ (fu : Nat) (d : Nat) (x3 x4 : Int) , x3 = (nxI m c (S 90) c.toNat) → x4 = ((d : Int)) → 0 ≤ nxI m c (S 90) c.toNat → nxI m c (S 90) c.toNat < (d : Int) → (d : Int) ≤ c → 7 - d < fu → gW Y X (us S 90 (nxP (S 90) (nxI m c (S 90) c.toNat) d)) 49 [(0, .ref (yA Y 82)), (1, .int (iI m)), (2, .int (iI c)), (3, .int (iI x3)), (4, .int (iI x4))] [] := by
    intro fu
    induction fu with
    | zero =>
      intro d x3 x4 e_x3 e_x4 hi0 hd hdc hfu
      exact absurd hfu (Nat.not_lt_zero _)
    | succ fu ih =>
      intro d x3 x4 e_x3 e_x4 hi0 hd hdc hfu
      subst e_x3
      subst e_x4
      have hti := htw (nxI m c (S 90) c.toNat) hi0 (by omega)
      have hnp : nxP (S 90) (nxI m c (S 90) c.toNat) d ((d : Int) - 1) = S 90 (nxI m c (S 90) c.toNat) + 1 + ((d : Int) - 1 - nxI m c (S 90) c.toNat) := if_pos ⟨by omega, by omega⟩
      refine g_iload (q := 51) B dX8_nextWay_49 rfl 4 rfl ?_
      refine g_iload_n (q := 52) B dX8_nextWay_51 rfl 2 rfl ?_
      refine g_icmp_ge (t := 79) (q := 55) B dX8_nextWay_52 (by decide) rfl ⟨by omega, by omega⟩ ⟨by omega, by omega⟩ (fun cq52 => ?_) (fun cq52 => ?_)
      · refine g_iconst (q := 80) B dX8_nextWay_79 rfl ?_
        refine g_zret B E dX8_nextWay_80 rfl (by decide) ?_
        exact ⟨zt hi0, by rw [show (d : Int) = c by omega, nxP_n hi0]⟩
      · refine g_aload_n (q := 56) B dX8_nextWay_55 rfl 0 rfl ?_
        refine g_get (n := 82) (ty := tyX8) (q := 59) (v := .ref (yA Y 90)) B dX8_nextWay_56 rfl ((us_ne _ _ (by omega)).trans rfl) rfl cls6 10 (by decide) w961 rfl ?_
        refine g_iload (q := 61) B dX8_nextWay_59 rfl 4 rfl ?_
        refine g_aload_n (q := 62) B dX8_nextWay_61 rfl 0 rfl ?_
        refine g_get (n := 82) (ty := tyX8) (q := 65) (v := .ref (yA Y 90)) B dX8_nextWay_62 rfl ((us_ne _ _ (by omega)).trans rfl) rfl cls6 10 (by decide) w961 rfl ?_
        refine g_iload (q := 67) B dX8_nextWay_65 rfl 4 rfl ?_
        refine g_iconst (q := 68) B dX8_nextWay_67 rfl ?_
        refine g_isub (q := 69) B dX8_nextWay_68 rfl ?_
        refine g_iald (n := 90) (q := 70) B dX8_nextWay_69 rfl (us_eq _ _ _) rfl (by decide) (by omega) (by omega) ?_
        refine g_iconst (q := 71) B dX8_nextWay_70 rfl ?_
        refine g_iadd (q := 72) B dX8_nextWay_71 rfl ?_
        refine g_iast (n := 90) (q := 73) B dX8_nextWay_72 rfl (us_eq _ _ _) (fun _ => rfl) (by decide) (by omega) (by omega) ?_
        refine g_eqS (us_us _ _ _ _) ?_
        refine g_iinc (n := 4) (q := 76) B dX8_nextWay_73 rfl rfl (by decide) (L' := [(4, .int (iI ((d : Int) + 1))), (0, .ref (yA Y 82)), (1, .int (iI m)), (2, .int (iI c)), (3, .int (iI (nxI m c (S 90) c.toNat)))]) rfl ?_
        refine g_goto (q := 49) B dX8_nextWay_76 (by decide) ?_
        refine g_sub [1, 2, 3, 4, 0] rfl ?_
        refine g_eqS ((show us S 90 (uq (nxP (S 90) (nxI m c (S 90) c.toNat) d) d (nxP (S 90) (nxI m c (S 90) c.toNat) d ((d : Int) - 1) + 1)) = us S 90 (nxP (S 90) (nxI m c (S 90) c.toNat) ((d + 1 : Nat) : Int)) by rw [nxP_s _ hd]; rfl)) ?_
        exact ih (d + 1) _ _ (by first | rfl | omega) (by first | rfl | omega) (by first | assumption | omega) (by first | assumption | omega) (by first | assumption | omega) (by omega)
  have lp28 : ∀ (x3 : Int) , x3 = (nxI m c (S 90) c.toNat) → gW Y X S 28 [(0, .ref (yA Y 82)), (1, .int (iI m)), (2, .int (iI c)), (3, .int (iI x3))] [] := by
    intro x3 e_x3
    subst e_x3
    have hti := htw (nxI m c (S 90) c.toNat)
    refine g_iload_n (q := 29) B dX8_nextWay_28 rfl 3 rfl ?_
    refine g_if_ge (t := 34) (q := 32) B dX8_nextWay_29 (by decide) rfl ⟨by omega, by omega⟩ (fun cq29 => ?_) (fun cq29 => ?_)
    · refine g_aload_n (q := 35) B dX8_nextWay_34 rfl 0 rfl ?_
      refine g_get (n := 82) (ty := tyX8) (q := 38) (v := .ref (yA Y 90)) B dX8_nextWay_35 rfl rfl rfl cls6 10 (by decide) w961 rfl ?_
      refine g_iload_n (q := 39) B dX8_nextWay_38 rfl 3 rfl ?_
      refine g_dup2 (q := 40) B dX8_nextWay_39 rfl rfl rfl ?_
      refine g_iald (n := 90) (q := 41) B dX8_nextWay_40 rfl rfl rfl (by decide) (by omega) (by omega) ?_
      refine g_iconst (q := 42) B dX8_nextWay_41 rfl ?_
      refine g_iadd (q := 43) B dX8_nextWay_42 rfl ?_
      refine g_iast (n := 90) (q := 44) B dX8_nextWay_43 rfl rfl (fun _ => rfl) (by decide) (by omega) (by omega) ?_
      refine g_iload_n (q := 45) B dX8_nextWay_44 rfl 3 rfl ?_
      refine g_iconst (q := 46) B dX8_nextWay_45 rfl ?_
      refine g_iadd (q := 47) B dX8_nextWay_46 rfl ?_
      refine g_istore (q := 49) B dX8_nextWay_47 rfl (by decide) (L' := [(4, .int (iI ((nxI m c (S 90) c.toNat) + 1))), (0, .ref (yA Y 82)), (1, .int (iI m)), (2, .int (iI c)), (3, .int (iI (nxI m c (S 90) c.toNat)))]) rfl ?_
      refine g_sub [1, 2, 3, 4, 0] rfl ?_
      refine g_eqS ((show us S 90 (uq (S 90) (nxI m c (S 90) c.toNat) (S 90 (nxI m c (S 90) c.toNat) + 1)) = us S 90 (nxP (S 90) (nxI m c (S 90) c.toNat) (((nxI m c (S 90) c.toNat) + 1).toNat : Int)) by rw [nxP_1, show ((((nxI m c (S 90) c.toNat) + 1).toNat : Nat) : Int) = (nxI m c (S 90) c.toNat) + 1 by omega])) ?_
      exact lp49 _ (((nxI m c (S 90) c.toNat) + 1).toNat) _ _ (by first | rfl | omega) (by first | rfl | omega) (by first | assumption | omega) (by first | assumption | omega) (by first | assumption | omega) (Nat.lt_succ_self _)
    · refine g_iconst (q := 33) B dX8_nextWay_32 rfl ?_
      refine g_zret B E dX8_nextWay_33 rfl (by decide) ?_
      exact ⟨zf (by omega), by rw [nxT_0 (by omega), us_id]⟩
  have lp4 : ∀ (fu : Nat) (n : Nat) (x3 : Int) , x3 = ((n : Int) - 1) → (n : Int) ≤ c → nxI m c (S 90) c.toNat = nxI m c (S 90) n → n + 1 < fu → gW Y X S 4 [(0, .ref (yA Y 82)), (1, .int (iI m)), (2, .int (iI c)), (3, .int (iI x3))] [] := by
    intro fu
    induction fu with
    | zero =>
      intro n x3 e_x3 hn he hfu
      exact absurd hfu (Nat.not_lt_zero _)
    | succ fu ih =>
      intro n x3 e_x3 hn he hfu
      subst e_x3
      have htn := htw ((n : Int) - 1)
      refine g_iload_n (q := 5) B dX8_nextWay_4 rfl 3 rfl ?_
      refine g_if_lt (t := 28) (q := 8) B dX8_nextWay_5 (by decide) rfl ⟨by omega, by omega⟩ (fun cq5 => ?_) (fun cq5 => ?_)
      · exact lp28 _ (by rw [he, show n = 0 by omega]; rfl)
      · refine g_aload_n (q := 9) B dX8_nextWay_8 rfl 0 rfl ?_
        refine g_get (n := 82) (ty := tyX8) (q := 12) (v := .ref (yA Y 90)) B dX8_nextWay_9 rfl rfl rfl cls6 10 (by decide) w961 rfl ?_
        refine g_iload_n (q := 13) B dX8_nextWay_12 rfl 3 rfl ?_
        refine g_iald (n := 90) (q := 14) B dX8_nextWay_13 rfl rfl rfl (by decide) (by omega) (by omega) ?_
        refine g_iload_n (q := 15) B dX8_nextWay_14 rfl 1 rfl ?_
        refine g_iload_n (q := 16) B dX8_nextWay_15 rfl 2 rfl ?_
        refine g_isub (q := 17) B dX8_nextWay_16 rfl ?_
        refine g_iload_n (q := 18) B dX8_nextWay_17 rfl 3 rfl ?_
        refine g_iadd (q := 19) B dX8_nextWay_18 rfl ?_
        refine g_icmp_ne (t := 28) (q := 22) B dX8_nextWay_19 (by decide) rfl ⟨by omega, by omega⟩ ⟨by omega, by omega⟩ (fun cq19 => ?_) (fun cq19 => ?_)
        · obtain ⟨k, rfl⟩ : ∃ k : Nat, n = k + 1 := ⟨n - 1, by omega⟩
          have h9 : ¬ S 90 (k : Int) = m - c + k := by rw [show (k : Int) = ((k + 1 : Nat) : Int) - 1 by omega]; omega
          exact lp28 _ (by rw [he, nxI, if_neg h9]; omega)
        · refine g_iinc (n := 3) (q := 25) B dX8_nextWay_22 rfl rfl (by decide) (L' := [(3, .int (iI ((n : Int) - 1 + (-1)))), (0, .ref (yA Y 82)), (1, .int (iI m)), (2, .int (iI c))]) rfl ?_
          refine g_goto (q := 4) B dX8_nextWay_25 (by decide) ?_
          refine g_sub [1, 2, 3, 0] rfl ?_
          obtain ⟨k, rfl⟩ : ∃ k : Nat, n = k + 1 := ⟨n - 1, by omega⟩
          have h9 : S 90 (k : Int) = m - c + k := by rw [show (k : Int) = ((k + 1 : Nat) : Int) - 1 by omega]; omega
          exact ih k _ (by first | rfl | omega) (by first | assumption | omega) (by rw [he, nxI, if_pos h9]) (by omega)
  refine g_iload_n (q := 1) B dX8_nextWay_0 rfl 2 rfl ?_
  refine g_iconst (q := 2) B dX8_nextWay_1 rfl ?_
  refine g_isub (q := 3) B dX8_nextWay_2 rfl ?_
  refine g_istore_n (q := 4) B dX8_nextWay_3 rfl (by decide) (L' := [(3, .int (iI (c - 1))), (0, .ref (yA Y 82)), (1, .int (iI m)), (2, .int (iI c))]) rfl ?_
  refine g_sub [1, 2, 3, 0] rfl ?_
  exact lp4 _ c.toNat _ (by first | rfl | omega) (by first | assumption | omega) (by first | assumption | omega) (Nat.lt_succ_self _)
set_option maxHeartbeats 4000000 in
theorem c_X8_leastWith {Y : gY} {l : Launch} {S : SS} {g : Int → Int} (hw : wf g) (hl : lay g (S 89)) (m c : Int) (hmg : m = g 0) (c0 : 0 ≤ c) (c1 : c ≤ 6) : gM Y l mX8_leastWith S [.ref (yA Y 82), .int (iI m), .int (iI c)] (pV (.int (iI (leW g c))) (fun S' => ∃ T : Int → Int, lwE g c (leW g c) T ∧ S' = us S 90 T)) := by
  refine gM_of (by decide) (Nat.le_of_ble_eq_true rfl) ?_
  intro X hXl B E
  have hg16 := hw.1
  show gW Y X S 0 [(0, .ref (yA Y 82)), (1, .int (iI m)), (2, .int (iI c))] []
  have lp10 : ∀ (fu : Nat) (x b : Int) (T : Int → Int) (e : Nat) , -1 ≤ x ∧ x ≤ 4032 → ((b = 1 ∧ lwI g c x T ∧ encW T c.toNat = 24137569 - (e : Int)) ∨ (b = 0 ∧ lwE g c x T)) → 0 ≤ b ∧ b ≤ 1 → e + 1 < fu → gW Y X (us S 90 T) 10 [(0, .ref (yA Y 82)), (1, .int (iI m)), (2, .int (iI c)), (3, .int (iI x)), (4, .int (iI b))] [] := by
    intro fu
    induction fu with
    | zero =>
      intro x b T e hx hb hbr hfu
      exact absurd hfu (Nat.not_lt_zero _)
    | succ fu ih =>
      intro x b T e hx hb hbr hfu
      refine g_iload (q := 12) B dX8_leastWith_10 rfl 4 rfl ?_
      refine g_if_eq (t := 65) (q := 15) B dX8_leastWith_12 (by decide) rfl ⟨by omega, by omega⟩ (fun cq12 => ?_) (fun cq12 => ?_)
      · have hE : lwE g c x T := by
          rcases hb with h | h
          · omega
          · exact h.2
        refine g_iload_n (q := 66) B dX8_leastWith_65 rfl 3 rfl ?_
        refine g_iret B E dX8_leastWith_66 ?_
        exact ⟨by rw [leW_of hE.1], T, by rw [leW_of hE.1]; exact hE, rfl⟩
      · have hI : lwI g c x T ∧ encW T c.toNat = 24137569 - (e : Int) := by
          rcases hb with h | h
          · exact h.2
          · exact absurd h.1 cq12
        have heT := encW_b (t := T) c.toNat (by omega) (fun j j0 j1 => ways_in (by omega) hI.1.1 j j0 (by omega))
        have hgr : 0 ≤ gapW g c T ∧ gapW g c T ≤ 4032 := gapW_in hw hI.1.1 c0 c1 4
        refine g_aload_n (q := 16) B dX8_leastWith_15 rfl 0 rfl ?_
        refine g_iload_n (q := 17) B dX8_leastWith_16 rfl 1 rfl ?_
        refine g_iload_n (q := 18) B dX8_leastWith_17 rfl 2 rfl ?_
        refine g_callV (n := 82) (ty := tyX8) (q := 21) (As := [.int (iI m), .int (iI c)]) (st := []) B dX8_leastWith_18 rfl (c_X8_gapTried (l := xL X) (S := (us S 90 T)) (g := g) hw hl m c hmg (by omega) (by omega) hI.1.1) eX8_gapTried w1198 (by decide) ((us_ne _ _ (by omega)).trans rfl) rfl cls6 rfl rfl (Nat.le_of_ble_eq_true rfl) (g_kE ?_)
        refine g_eqT (st' := [.int (iI (gapW g c T))]) (congrArg (fun z => Value.int (iI z) :: []) (show gapW g c T = gapW g c T by rfl)) ?_
        refine g_istore (q := 23) B dX8_leastWith_21 rfl (by decide) (L' := [(5, .int (iI (gapW g c T))), (0, .ref (yA Y 82)), (1, .int (iI m)), (2, .int (iI c)), (3, .int (iI x)), (4, .int (iI b))]) rfl ?_
        refine g_iload_n (q := 24) B dX8_leastWith_23 rfl 4 rfl ?_
        refine g_iconst (q := 25) B dX8_leastWith_24 rfl ?_
        refine g_icmp_eq (t := 34) (q := 28) B dX8_leastWith_25 (by decide) rfl ⟨by omega, by omega⟩ ⟨by omega, by omega⟩ (fun cq25 => ?_) (fun cq25 => ?_)
        · refine g_iload (q := 36) B dX8_leastWith_34 rfl 0 rfl ?_
          refine g_goto (q := 40) B dX8_leastWith_36 (by decide) ?_
          refine g_istore_n (q := 41) B dX8_leastWith_40 rfl (by decide) (L' := [(3, .int (iI (gapW g c T))), (5, .int (iI (gapW g c T))), (0, .ref (yA Y 82)), (1, .int (iI m)), (2, .int (iI c)), (4, .int (iI b))]) rfl ?_
          refine g_iload (q := 43) B dX8_leastWith_41 rfl 1 rfl ?_
          refine g_if_le (t := 59) (q := 46) B dX8_leastWith_43 (by decide) rfl ⟨by omega, by omega⟩ (fun cq43 => ?_) (fun cq43 => ?_)
          · refine g_iconst (q := 60) B dX8_leastWith_59 rfl ?_
            refine g_istore (q := 62) B dX8_leastWith_60 rfl (by decide) (L' := [(4, .int (iI 0)), (3, .int (iI (gapW g c T))), (5, .int (iI (gapW g c T))), (0, .ref (yA Y 82)), (1, .int (iI m)), (2, .int (iI c))]) rfl ?_
            refine g_goto (q := 10) B dX8_leastWith_62 (by decide) ?_
            refine g_sub [3, 4, 5, 1, 0] rfl ?_
            have hlx : lwX x (gapW g c T) = gapW g c T := by
              unfold lwX
              (repeat' split) <;> omega
            have hy := lwE_z hw c0 c1 hI.1 (by omega)
            rw [hlx] at hy
            exact ih (gapW g c T) 0 T 0 (by first | assumption | omega) (by exact Or.inr ⟨rfl, hy⟩) (by first | assumption | omega) (by omega)
          · refine g_aload_n (q := 47) B dX8_leastWith_46 rfl 2 rfl ?_
            refine g_iload_n (q := 48) B dX8_leastWith_47 rfl 3 rfl ?_
            refine g_iload_n (q := 49) B dX8_leastWith_48 rfl 4 rfl ?_
            refine g_callV (n := 82) (ty := tyX8) (q := 52) (As := [.int (iI m), .int (iI c)]) (st := []) B dX8_leastWith_49 rfl (c_X8_nextWay (l := xL X) (S := (us S 90 T)) m c (by omega) (by omega) (by omega) (by rw [hmg]; exact hI.1.1)) eX8_nextWay w1202 (by decide) ((us_ne _ _ (by omega)).trans rfl) rfl cls6 rfl rfl (Nat.le_of_ble_eq_true rfl) (g_kE ?_)
            refine g_ifb_eq (t := 59) (q := 55) B dX8_leastWith_52 (by decide) rfl (fun cq52 => ?_) (fun cq52 => ?_)
            · refine g_iconst (q := 60) B dX8_leastWith_59 rfl ?_
              refine g_istore (q := 62) B dX8_leastWith_60 rfl (by decide) (L' := [(4, .int (iI 0)), (3, .int (iI (gapW g c T))), (5, .int (iI (gapW g c T))), (0, .ref (yA Y 82)), (1, .int (iI m)), (2, .int (iI c))]) rfl ?_
              refine g_goto (q := 10) B dX8_leastWith_62 (by decide) ?_
              refine g_sub [3, 4, 5, 1, 0] rfl ?_
              have hlx : lwX x (gapW g c T) = gapW g c T := by
                unfold lwX
                (repeat' split) <;> omega
              have hnx : ¬ 0 ≤ nxI (g 0) c T c.toNat := by rw [← hmg]; exact cq52
              have hy := lwE_n hw c0 c1 hI.1 (by omega) hnx (nxT m c T)
              rw [hlx] at hy
              refine g_eqS ((us_us _ _ _ _)) ?_
              exact ih (gapW g c T) 0 ((nxT m c T)) 0 (by first | assumption | omega) (by exact Or.inr ⟨rfl, hy⟩) (by first | assumption | omega) (by omega)
            · refine g_iconst (q := 56) B dX8_leastWith_55 rfl ?_
              refine g_goto (q := 60) B dX8_leastWith_56 (by decide) ?_
              refine g_istore (q := 62) B dX8_leastWith_60 rfl (by decide) (L' := [(4, .int (iI 1)), (3, .int (iI (gapW g c T))), (5, .int (iI (gapW g c T))), (0, .ref (yA Y 82)), (1, .int (iI m)), (2, .int (iI c))]) rfl ?_
              refine g_goto (q := 10) B dX8_leastWith_62 (by decide) ?_
              refine g_sub [3, 4, 5, 1, 0] rfl ?_
              have hlx : lwX x (gapW g c T) = gapW g c T := by
                unfold lwX
                (repeat' split) <;> omega
              have hnx : 0 ≤ nxI (g 0) c T c.toNat := by rw [← hmg]; exact cq52
              have hy := lwI_n hw c0 c1 hI.1 (by omega) hnx
              have hen := encW_n (by omega) c0 hI.1.1 hnx
              have heb := encW_b (t := nxT (g 0) c T) c.toNat (by omega) (fun j j0 j1 => ways_in (by omega) hy.1 j j0 (by omega))
              rw [hlx] at hy
              rw [← hmg] at hy hen heb
              refine g_eqS ((us_us _ _ _ _)) ?_
              exact ih (gapW g c T) 1 ((nxT m c T)) ((24137569 - encW (nxT m c T) c.toNat).toNat) (by first | assumption | omega) (by exact Or.inl ⟨rfl, hy, by omega⟩) (by first | assumption | omega) (by omega)
        · refine g_iload (q := 30) B dX8_leastWith_28 rfl 0 rfl ?_
          refine g_iload_n (q := 31) B dX8_leastWith_30 rfl 4 rfl ?_
          refine g_icmp_ge (t := 39) (q := 34) B dX8_leastWith_31 (by decide) rfl ⟨by omega, by omega⟩ ⟨by omega, by omega⟩ (fun cq31 => ?_) (fun cq31 => ?_)
          · refine g_iload_n (q := 40) B dX8_leastWith_39 rfl 4 rfl ?_
            refine g_istore_n (q := 41) B dX8_leastWith_40 rfl (by decide) (L' := [(3, .int (iI x)), (5, .int (iI (gapW g c T))), (0, .ref (yA Y 82)), (1, .int (iI m)), (2, .int (iI c)), (4, .int (iI b))]) rfl ?_
            refine g_iload (q := 43) B dX8_leastWith_41 rfl 1 rfl ?_
            refine g_if_le (t := 59) (q := 46) B dX8_leastWith_43 (by decide) rfl ⟨by omega, by omega⟩ (fun cq43 => ?_) (fun cq43 => ?_)
            · refine g_iconst (q := 60) B dX8_leastWith_59 rfl ?_
              refine g_istore (q := 62) B dX8_leastWith_60 rfl (by decide) (L' := [(4, .int (iI 0)), (3, .int (iI x)), (5, .int (iI (gapW g c T))), (0, .ref (yA Y 82)), (1, .int (iI m)), (2, .int (iI c))]) rfl ?_
              refine g_goto (q := 10) B dX8_leastWith_62 (by decide) ?_
              refine g_sub [3, 4, 5, 1, 0] rfl ?_
              have hlx : lwX x (gapW g c T) = x := by
                unfold lwX
                (repeat' split) <;> omega
              have hy := lwE_z hw c0 c1 hI.1 (by omega)
              rw [hlx] at hy
              exact ih x 0 T 0 (by first | assumption | omega) (by exact Or.inr ⟨rfl, hy⟩) (by first | assumption | omega) (by omega)
            · refine g_aload_n (q := 47) B dX8_leastWith_46 rfl 2 rfl ?_
              refine g_iload_n (q := 48) B dX8_leastWith_47 rfl 3 rfl ?_
              refine g_iload_n (q := 49) B dX8_leastWith_48 rfl 4 rfl ?_
              refine g_callV (n := 82) (ty := tyX8) (q := 52) (As := [.int (iI m), .int (iI c)]) (st := []) B dX8_leastWith_49 rfl (c_X8_nextWay (l := xL X) (S := (us S 90 T)) m c (by omega) (by omega) (by omega) (by rw [hmg]; exact hI.1.1)) eX8_nextWay w1202 (by decide) ((us_ne _ _ (by omega)).trans rfl) rfl cls6 rfl rfl (Nat.le_of_ble_eq_true rfl) (g_kE ?_)
              refine g_ifb_eq (t := 59) (q := 55) B dX8_leastWith_52 (by decide) rfl (fun cq52 => ?_) (fun cq52 => ?_)
              · refine g_iconst (q := 60) B dX8_leastWith_59 rfl ?_
                refine g_istore (q := 62) B dX8_leastWith_60 rfl (by decide) (L' := [(4, .int (iI 0)), (3, .int (iI x)), (5, .int (iI (gapW g c T))), (0, .ref (yA Y 82)), (1, .int (iI m)), (2, .int (iI c))]) rfl ?_
                refine g_goto (q := 10) B dX8_leastWith_62 (by decide) ?_
                refine g_sub [3, 4, 5, 1, 0] rfl ?_
                have hlx : lwX x (gapW g c T) = x := by
                  unfold lwX
                  (repeat' split) <;> omega
                have hnx : ¬ 0 ≤ nxI (g 0) c T c.toNat := by rw [← hmg]; exact cq52
                have hy := lwE_n hw c0 c1 hI.1 (by omega) hnx (nxT m c T)
                rw [hlx] at hy
                refine g_eqS ((us_us _ _ _ _)) ?_
                exact ih x 0 ((nxT m c T)) 0 (by first | assumption | omega) (by exact Or.inr ⟨rfl, hy⟩) (by first | assumption | omega) (by omega)
              · refine g_iconst (q := 56) B dX8_leastWith_55 rfl ?_
                refine g_goto (q := 60) B dX8_leastWith_56 (by decide) ?_
                refine g_istore (q := 62) B dX8_leastWith_60 rfl (by decide) (L' := [(4, .int (iI 1)), (3, .int (iI x)), (5, .int (iI (gapW g c T))), (0, .ref (yA Y 82)), (1, .int (iI m)), (2, .int (iI c))]) rfl ?_
                refine g_goto (q := 10) B dX8_leastWith_62 (by decide) ?_
                refine g_sub [3, 4, 5, 1, 0] rfl ?_
                have hlx : lwX x (gapW g c T) = x := by
                  unfold lwX
                  (repeat' split) <;> omega
                have hnx : 0 ≤ nxI (g 0) c T c.toNat := by rw [← hmg]; exact cq52
                have hy := lwI_n hw c0 c1 hI.1 (by omega) hnx
                have hen := encW_n (by omega) c0 hI.1.1 hnx
                have heb := encW_b (t := nxT (g 0) c T) c.toNat (by omega) (fun j j0 j1 => ways_in (by omega) hy.1 j j0 (by omega))
                rw [hlx] at hy
                rw [← hmg] at hy hen heb
                refine g_eqS ((us_us _ _ _ _)) ?_
                exact ih x 1 ((nxT m c T)) ((24137569 - encW (nxT m c T) c.toNat).toNat) (by first | assumption | omega) (by exact Or.inl ⟨rfl, hy, by omega⟩) (by first | assumption | omega) (by omega)
          · refine g_iload (q := 36) B dX8_leastWith_34 rfl 0 rfl ?_
            refine g_goto (q := 40) B dX8_leastWith_36 (by decide) ?_
            refine g_istore_n (q := 41) B dX8_leastWith_40 rfl (by decide) (L' := [(3, .int (iI (gapW g c T))), (5, .int (iI (gapW g c T))), (0, .ref (yA Y 82)), (1, .int (iI m)), (2, .int (iI c)), (4, .int (iI b))]) rfl ?_
            refine g_iload (q := 43) B dX8_leastWith_41 rfl 1 rfl ?_
            refine g_if_le (t := 59) (q := 46) B dX8_leastWith_43 (by decide) rfl ⟨by omega, by omega⟩ (fun cq43 => ?_) (fun cq43 => ?_)
            · refine g_iconst (q := 60) B dX8_leastWith_59 rfl ?_
              refine g_istore (q := 62) B dX8_leastWith_60 rfl (by decide) (L' := [(4, .int (iI 0)), (3, .int (iI (gapW g c T))), (5, .int (iI (gapW g c T))), (0, .ref (yA Y 82)), (1, .int (iI m)), (2, .int (iI c))]) rfl ?_
              refine g_goto (q := 10) B dX8_leastWith_62 (by decide) ?_
              refine g_sub [3, 4, 5, 1, 0] rfl ?_
              have hlx : lwX x (gapW g c T) = gapW g c T := by
                unfold lwX
                (repeat' split) <;> omega
              have hy := lwE_z hw c0 c1 hI.1 (by omega)
              rw [hlx] at hy
              exact ih (gapW g c T) 0 T 0 (by first | assumption | omega) (by exact Or.inr ⟨rfl, hy⟩) (by first | assumption | omega) (by omega)
            · refine g_aload_n (q := 47) B dX8_leastWith_46 rfl 2 rfl ?_
              refine g_iload_n (q := 48) B dX8_leastWith_47 rfl 3 rfl ?_
              refine g_iload_n (q := 49) B dX8_leastWith_48 rfl 4 rfl ?_
              refine g_callV (n := 82) (ty := tyX8) (q := 52) (As := [.int (iI m), .int (iI c)]) (st := []) B dX8_leastWith_49 rfl (c_X8_nextWay (l := xL X) (S := (us S 90 T)) m c (by omega) (by omega) (by omega) (by rw [hmg]; exact hI.1.1)) eX8_nextWay w1202 (by decide) ((us_ne _ _ (by omega)).trans rfl) rfl cls6 rfl rfl (Nat.le_of_ble_eq_true rfl) (g_kE ?_)
              refine g_ifb_eq (t := 59) (q := 55) B dX8_leastWith_52 (by decide) rfl (fun cq52 => ?_) (fun cq52 => ?_)
              · refine g_iconst (q := 60) B dX8_leastWith_59 rfl ?_
                refine g_istore (q := 62) B dX8_leastWith_60 rfl (by decide) (L' := [(4, .int (iI 0)), (3, .int (iI (gapW g c T))), (5, .int (iI (gapW g c T))), (0, .ref (yA Y 82)), (1, .int (iI m)), (2, .int (iI c))]) rfl ?_
                refine g_goto (q := 10) B dX8_leastWith_62 (by decide) ?_
                refine g_sub [3, 4, 5, 1, 0] rfl ?_
                have hlx : lwX x (gapW g c T) = gapW g c T := by
                  unfold lwX
                  (repeat' split) <;> omega
                have hnx : ¬ 0 ≤ nxI (g 0) c T c.toNat := by rw [← hmg]; exact cq52
                have hy := lwE_n hw c0 c1 hI.1 (by omega) hnx (nxT m c T)
                rw [hlx] at hy
                refine g_eqS ((us_us _ _ _ _)) ?_
                exact ih (gapW g c T) 0 ((nxT m c T)) 0 (by first | assumption | omega) (by exact Or.inr ⟨rfl, hy⟩) (by first | assumption | omega) (by omega)
              · refine g_iconst (q := 56) B dX8_leastWith_55 rfl ?_
                refine g_goto (q := 60) B dX8_leastWith_56 (by decide) ?_
                refine g_istore (q := 62) B dX8_leastWith_60 rfl (by decide) (L' := [(4, .int (iI 1)), (3, .int (iI (gapW g c T))), (5, .int (iI (gapW g c T))), (0, .ref (yA Y 82)), (1, .int (iI m)), (2, .int (iI c))]) rfl ?_
                refine g_goto (q := 10) B dX8_leastWith_62 (by decide) ?_
                refine g_sub [3, 4, 5, 1, 0] rfl ?_
                have hlx : lwX x (gapW g c T) = gapW g c T := by
                  unfold lwX
                  (repeat' split) <;> omega
                have hnx : 0 ≤ nxI (g 0) c T c.toNat := by rw [← hmg]; exact cq52
                have hy := lwI_n hw c0 c1 hI.1 (by omega) hnx
                have hen := encW_n (by omega) c0 hI.1.1 hnx
                have heb := encW_b (t := nxT (g 0) c T) c.toNat (by omega) (fun j j0 j1 => ways_in (by omega) hy.1 j j0 (by omega))
                rw [hlx] at hy
                rw [← hmg] at hy hen heb
                refine g_eqS ((us_us _ _ _ _)) ?_
                exact ih (gapW g c T) 1 ((nxT m c T)) ((24137569 - encW (nxT m c T) c.toNat).toNat) (by first | assumption | omega) (by exact Or.inl ⟨rfl, hy, by omega⟩) (by first | assumption | omega) (by omega)
  refine g_iconst (q := 1) B dX8_leastWith_0 rfl ?_
  refine g_istore_n (q := 2) B dX8_leastWith_1 rfl (by decide) (L' := [(3, .int (iI (-1))), (0, .ref (yA Y 82)), (1, .int (iI m)), (2, .int (iI c))]) rfl ?_
  refine g_aload_n (q := 3) B dX8_leastWith_2 rfl 1 rfl ?_
  refine g_iload_n (q := 4) B dX8_leastWith_3 rfl 2 rfl ?_
  refine g_iload_n (q := 5) B dX8_leastWith_4 rfl 3 rfl ?_
  refine g_callV (n := 82) (ty := tyX8) (q := 8) (As := [.int (iI m), .int (iI c)]) (st := []) B dX8_leastWith_5 rfl (c_X8_firstWay (l := xL X) (S := S) m c (by omega) (by omega) (by omega)) eX8_firstWay w1194 (by decide) rfl rfl cls6 rfl rfl (Nat.le_of_ble_eq_true rfl) (g_kE ?_)
  refine g_eqT (st' := [.int (iI (if c < m ∨ c = 0 then 1 else 0))]) (congrArg (fun z => Value.int z :: []) (bI_iI (c < m ∨ c = 0))) ?_
  refine g_istore (q := 10) B dX8_leastWith_8 rfl (by decide) (L' := [(4, .int (iI (if c < m ∨ c = 0 then 1 else 0))), (3, .int (iI (-1))), (0, .ref (yA Y 82)), (1, .int (iI m)), (2, .int (iI c))]) rfl ?_
  refine g_sub [2, 3, 4, 1, 0] rfl ?_
  have hbb : ((if c < m ∨ c = 0 then 1 else 0 : Int) = 1 ∧ lwI g c (-1) (fwT (S 90) c.toNat) ∧ encW (fwT (S 90) c.toNat) c.toNat = 24137569 - (((24137569 - encW (fwT (S 90) c.toNat) c.toNat).toNat : Nat) : Int)) ∨ ((if c < m ∨ c = 0 then 1 else 0 : Int) = 0 ∧ lwE g c (-1) (fwT (S 90) c.toNat)) := by
    by_cases hc : c < m ∨ c = 0
    · rw [if_pos hc]
      have h0 := lwI_0 (g := g) (S 90) c0 (by rw [← hmg]; exact hc)
      have he := encW_b (t := fwT (S 90) c.toNat) c.toNat (by omega) (fun j j0 j1 => ways_in (by omega) h0.1 j j0 (by omega))
      exact Or.inl ⟨rfl, h0, by omega⟩
    · rw [if_neg hc]; exact Or.inr ⟨rfl, lwE_0 _ c0 (by rw [← hmg]; exact hc)⟩
  exact lp10 _ (-1) ((if c < m ∨ c = 0 then 1 else 0)) _ ((24137569 - encW (fwT (S 90) c.toNat) c.toNat).toNat) (by first | assumption | omega) (by exact hbb) (by split <;> omega) (Nat.lt_succ_self _)
