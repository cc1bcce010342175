set_option maxHeartbeats 4000000 in
theorem c_X8_layOut {Y : gY} {l : Launch} {S : SS} {n : Nat} (hm : isM n) (hw : wf (mw S n)) : gM Y l mX8_layOut S [.ref (yA Y 82), .ref (yA Y n)] (p0 (fun S' => ∃ D : Int → Int, lay (mw S n) D ∧ S' = us S 89 D)) := by
  refine gM_of (by decide) (Nat.le_of_ble_eq_true rfl) ?_
  intro X hXl B E
  obtain ⟨⟨hn0, hn16⟩, ⟨hb0, hb1⟩, ⟨hm0, hm1⟩, ⟨hs0, hs1⟩, ⟨hc0, hc1⟩, hct, hkw, how⟩ := wfT hw
  have hn9 : n ≠ 89 := by rcases hm with h | h <;> omega
  show gW Y X S 0 [(0, .ref (yA Y 82)), (1, .ref (yA Y n))] []
  have lp2 : ∀ (fu : Nat) (k : Nat) (D : Int → Int) (x2 : Int) , x2 = ((k : Int)) → k ≤ 4 → (∀ k1 : Int, 0 ≤ k1 → k1 < k → ∀ p : Nat, (p : Int) ≤ S n 0 → D (17 * k1 + p) = ahF (mw S n) k1 p) → 4 - k < fu → gW Y X (us S 89 D) 2 [(0, .ref (yA Y 82)), (1, .ref (yA Y n)), (2, .int (iI x2))] [] := by
    intro fu
    induction fu with
    | zero =>
      intro k D x2 e_x2 hk hD hfu
      exact absurd hfu (Nat.not_lt_zero _)
    | succ fu ih =>
      intro k D x2 e_x2 hk hD hfu
      subst e_x2
      have lp19 : ∀ (fu : Nat) (p : Nat) (Dx : Int → Int) (x2 x3 : Int) , x2 = ((k : Int)) → x3 = ((p : Int)) → (p : Int) ≤ S n 0 → (∀ k1 : Int, 0 ≤ k1 → k1 < k → ∀ q : Nat, (q : Int) ≤ S n 0 → Dx (17 * k1 + q) = ahF (mw S n) k1 q) → (∀ q : Nat, (q : Int) ≤ p → Dx (17 * k + q) = ahF (mw S n) k q) → k < 4 → 17 - p < fu → gW Y X (us S 89 Dx) 19 [(0, .ref (yA Y 82)), (1, .ref (yA Y n)), (2, .int (iI x2)), (3, .int (iI x3))] [] := by
        intro fu
        induction fu with
        | zero =>
          intro p Dx x2 x3 e_x2 e_x3 hp hDx hE hk4 hfu
          exact absurd hfu (Nat.not_lt_zero _)
        | succ fu ih19 =>
          intro p Dx x2 x3 e_x2 e_x3 hp hDx hE hk4 hfu
          subst e_x2
          subst e_x3
          have hwD : wf (mw (us S 89 Dx) n) := by rw [mw_ne hn9]; exact hw
          have e0 : us S 89 Dx n 0 = S n 0 := by rw [us_a hn9]
          refine g_iload_n (q := 20) B dX8_layOut_19 rfl 3 rfl ?_
          refine g_aload_n (q := 21) B dX8_layOut_20 rfl 1 rfl ?_
          refine g_iconst (q := 22) B dX8_layOut_21 rfl ?_
          refine g_iald (n := n) (q := 23) B dX8_layOut_22 rfl ((us_ne _ _ (by omega)).trans rfl) (cw_M hm (S n)) (by decide) (by omega) (by omega) ?_
          refine g_icmp_ge (t := 85) (q := 26) B dX8_layOut_23 (by decide) rfl ⟨by omega, by omega⟩ ⟨by omega, by omega⟩ (fun cq23 => ?_) (fun cq23 => ?_)
          · refine g_iinc (n := 2) (q := 88) B dX8_layOut_85 rfl rfl (by decide) (L' := [(2, .int (iI ((k : Int) + 1))), (0, .ref (yA Y 82)), (1, .ref (yA Y n)), (3, .int (iI ((p : Int))))]) rfl ?_
            refine g_goto (q := 2) B dX8_layOut_88 (by decide) ?_
            refine g_sub [1, 2, 0] rfl ?_
            have hDy : ∀ k1 : Int, 0 ≤ k1 → k1 < ((k + 1 : Nat) : Int) → ∀ q : Nat, (q : Int) ≤ S n 0 → Dx (17 * k1 + q) = ahF (mw S n) k1 q := by
              intro k1 h0 h1 q hq
              by_cases hk1 : k1 = k
              · subst hk1; exact hE q (by omega)
              · exact hDx k1 h0 (by omega) q hq
            exact ih (k + 1) _ _ (by first | rfl | omega) (by omega) (by exact hDy) (by omega)
          · refine g_aload_n (q := 27) B dX8_layOut_26 rfl 1 rfl ?_
            refine g_iload_n (q := 28) B dX8_layOut_27 rfl 3 rfl ?_
            refine g_callS (q := 31) (As := [.ref (yA Y n), .int (iI ((p : Int)))]) (st := []) B dX8_layOut_28 rfl (c_X8_jewelAt (l := xL X) (S := (us S 89 Dx)) hm hwD ((p : Int)) (by omega) (by omega)) eX8_jewelAt w1078 (by decide) rfl rfl (Nat.le_of_ble_eq_true rfl) (g_kE ?_)
            have hj := jatF_in hw (p := (p : Int)) (by omega) (by rw [mw_0]; omega)
            rw [mw_0] at hj
            have hkk := hkw _ hj.1 hj.2
            have hjz : jatF (mw (us S 89 Dx) n) (p : Int) = jatF (mw S n) (p : Int) := by rw [mw_ne hn9]
            refine g_istore (q := 33) B dX8_layOut_31 rfl (by decide) (L' := [(4, .int (iI (jatF (mw (us S 89 Dx) n) ((p : Int))))), (0, .ref (yA Y 82)), (1, .ref (yA Y n)), (2, .int (iI ((k : Int)))), (3, .int (iI ((p : Int))))]) rfl ?_
            refine g_aload_n (q := 34) B dX8_layOut_33 rfl 1 rfl ?_
            refine g_get (n := 82) (ty := tyX8) (q := 37) (v := .ref (yA Y 89)) B dX8_layOut_34 rfl ((us_ne _ _ (by omega)).trans rfl) rfl cls6 9 (by decide) w961 rfl ?_
            refine g_bipush (q := 39) B dX8_layOut_37 rfl (by decide) ?_
            refine g_iload_n (q := 40) B dX8_layOut_39 rfl 3 rfl ?_
            refine g_imul (q := 41) B dX8_layOut_40 rfl ?_
            refine g_iload_n (q := 42) B dX8_layOut_41 rfl 4 rfl ?_
            refine g_iadd (q := 43) B dX8_layOut_42 rfl ?_
            refine g_iconst (q := 44) B dX8_layOut_43 rfl ?_
            refine g_iadd (q := 45) B dX8_layOut_44 rfl ?_
            refine g_aload_n (q := 46) B dX8_layOut_45 rfl 1 rfl ?_
            refine g_get (n := 82) (ty := tyX8) (q := 49) (v := .ref (yA Y 89)) B dX8_layOut_46 rfl ((us_ne _ _ (by omega)).trans rfl) rfl cls6 9 (by decide) w961 rfl ?_
            refine g_bipush (q := 51) B dX8_layOut_49 rfl (by decide) ?_
            refine g_iload_n (q := 52) B dX8_layOut_51 rfl 3 rfl ?_
            refine g_imul (q := 53) B dX8_layOut_52 rfl ?_
            refine g_iload_n (q := 54) B dX8_layOut_53 rfl 4 rfl ?_
            refine g_iadd (q := 55) B dX8_layOut_54 rfl ?_
            refine g_iald (n := 89) (q := 56) B dX8_layOut_55 rfl (us_eq _ _ _) rfl (by decide) (by omega) (by omega) ?_
            refine g_aload_n (q := 57) B dX8_layOut_56 rfl 2 rfl ?_
            refine g_bipush (q := 59) B dX8_layOut_57 rfl (by decide) ?_
            refine g_iload (q := 61) B dX8_layOut_59 rfl 0 rfl ?_
            refine g_iadd (q := 62) B dX8_layOut_61 rfl ?_
            refine g_iald (n := n) (q := 63) B dX8_layOut_62 rfl ((us_ne _ _ (by omega)).trans rfl) (cw_M hm (S n)) (by decide) (by omega) (by omega) ?_
            refine g_iload_n (q := 64) B dX8_layOut_63 rfl 3 rfl ?_
            refine g_icmp_ne (t := 76) (q := 67) B dX8_layOut_64 (by decide) rfl ⟨by omega, by omega⟩ ⟨by omega, by omega⟩ (fun cq64 => ?_) (fun cq64 => ?_)
            · refine g_iconst (q := 77) B dX8_layOut_76 rfl ?_
              refine g_iadd (q := 78) B dX8_layOut_77 rfl ?_
              refine g_iast (n := 89) (q := 79) B dX8_layOut_78 rfl (us_eq _ _ _) (fun _ => rfl) (by decide) (by omega) (by omega) ?_
              refine g_eqS (us_us _ _ _ _) ?_
              refine g_iinc (n := 4) (q := 82) B dX8_layOut_79 rfl rfl (by decide) (L' := [(3, .int (iI ((p : Int) + 1))), (4, .int (iI (jatF (mw (us S 89 Dx) n) ((p : Int))))), (0, .ref (yA Y 82)), (1, .ref (yA Y n)), (2, .int (iI ((k : Int))))]) rfl ?_
              refine g_goto (q := 19) B dX8_layOut_82 (by decide) ?_
              refine g_sub [2, 3, 4, 0] rfl ?_
              have hah : ahE (mw S n) k p = 0 := by
                rw [mw_ne hn9] at cq64
                rw [ahE, mw_e S n (by omega) (by omega)]
                exact if_neg cq64
              have hEy : ∀ q : Nat, (q : Int) ≤ ((p + 1 : Nat) : Int) → (uq Dx (((17 * ((k : Int))) + ((p : Int))) + 1) ((Dx ((17 * ((k : Int))) + ((p : Int)))) + 0)) (17 * k + q) = ahF (mw S n) k q := by
                intro q hq
                by_cases hq1 : (q : Int) = p + 1
                · rw [show q = p + 1 by omega, show 17 * (k : Int) + ((p + 1 : Nat) : Int) = 17 * k + p + 1 by omega, uq_eq, hE p (by omega), ahF, ahF, sm_s, hah]
                · rw [uq_ne _ _ (by omega)]; exact hE q (by omega)
              exact ih19 (p + 1) _ _ _ (by first | rfl | omega) (by first | rfl | omega) (by first | assumption | omega) (by intro k1 h0 h1 q hq; rw [uq_ne _ _ (by omega)]; exact hDx k1 h0 h1 q hq) (by exact hEy) (by first | assumption | omega) (by omega)
            · refine g_aload_n (q := 68) B dX8_layOut_67 rfl 2 rfl ?_
              refine g_iload (q := 70) B dX8_layOut_68 rfl 0 rfl ?_
              refine g_callS (q := 73) (As := [.ref (yA Y n), .int (iI (jatF (mw (us S 89 Dx) n) ((p : Int))))]) (st := [.int (iI (Dx ((17 * ((k : Int))) + ((p : Int))))), .int (iI (((17 * ((k : Int))) + ((p : Int))) + 1)), .ref (yA Y 89)]) B dX8_layOut_70 rfl (c_X8_valueOf (l := xL X) (S := (us S 89 Dx)) hm hwD (jatF (mw (us S 89 Dx) n) ((p : Int))) (by omega) (by omega)) eX8_valueOf w1081 (by decide) rfl rfl (Nat.le_of_ble_eq_true rfl) (g_kE ?_)
              refine g_goto (q := 77) B dX8_layOut_73 (by decide) ?_
              refine g_iadd (q := 78) B dX8_layOut_77 rfl ?_
              refine g_iast (n := 89) (q := 79) B dX8_layOut_78 rfl (us_eq _ _ _) (fun _ => rfl) (by decide) (by omega) (by omega) ?_
              refine g_eqS (us_us _ _ _ _) ?_
              refine g_iinc (n := 4) (q := 82) B dX8_layOut_79 rfl rfl (by decide) (L' := [(3, .int (iI ((p : Int) + 1))), (4, .int (iI (jatF (mw (us S 89 Dx) n) ((p : Int))))), (0, .ref (yA Y 82)), (1, .ref (yA Y n)), (2, .int (iI ((k : Int))))]) rfl ?_
              refine g_goto (q := 19) B dX8_layOut_82 (by decide) ?_
              refine g_sub [2, 3, 4, 0] rfl ?_
              have hah : ahE (mw S n) k p = valF (mw (us S 89 Dx) n) (jatF (mw (us S 89 Dx) n) p) := by
                rw [mw_ne hn9] at cq64
                rw [ahE, mw_e S n (by omega) (by omega), mw_ne hn9]
                exact if_pos cq64
              have hEy : ∀ q : Nat, (q : Int) ≤ ((p + 1 : Nat) : Int) → (uq Dx (((17 * ((k : Int))) + ((p : Int))) + 1) ((Dx ((17 * ((k : Int))) + ((p : Int)))) + (valF (mw (us S 89 Dx) n) (jatF (mw (us S 89 Dx) n) ((p : Int)))))) (17 * k + q) = ahF (mw S n) k q := by
                intro q hq
                by_cases hq1 : (q : Int) = p + 1
                · rw [show q = p + 1 by omega, show 17 * (k : Int) + ((p + 1 : Nat) : Int) = 17 * k + p + 1 by omega, uq_eq, hE p (by omega), ahF, ahF, sm_s, hah]
                · rw [uq_ne _ _ (by omega)]; exact hE q (by omega)
              exact ih19 (p + 1) _ _ _ (by first | rfl | omega) (by first | rfl | omega) (by first | assumption | omega) (by intro k1 h0 h1 q hq; rw [uq_ne _ _ (by omega)]; exact hDx k1 h0 h1 q hq) (by exact hEy) (by first | assumption | omega) (by omega)
      refine g_iload_n (q := 3) B dX8_layOut_2 rfl 2 rfl ?_
      refine g_iconst (q := 4) B dX8_layOut_3 rfl ?_
      refine g_icmp_ge (t := 91) (q := 7) B dX8_layOut_4 (by decide) rfl ⟨by omega, by omega⟩ ⟨by omega, by omega⟩ (fun cq4 => ?_) (fun cq4 => ?_)
      · refine g_vret B E dX8_layOut_91 ?_
        refine ⟨rfl, D, fun k1 h0 h1 q hq => hD k1 h0 (by omega) q (by rw [mw_0] at hq; exact hq), rfl⟩
      · refine g_aload_n (q := 8) B dX8_layOut_7 rfl 0 rfl ?_
        refine g_get (n := 82) (ty := tyX8) (q := 11) (v := .ref (yA Y 89)) B dX8_layOut_8 rfl ((us_ne _ _ (by omega)).trans rfl) rfl cls6 9 (by decide) w961 rfl ?_
        refine g_bipush (q := 13) B dX8_layOut_11 rfl (by decide) ?_
        refine g_iload_n (q := 14) B dX8_layOut_13 rfl 2 rfl ?_
        refine g_imul (q := 15) B dX8_layOut_14 rfl ?_
        refine g_iconst (q := 16) B dX8_layOut_15 rfl ?_
        refine g_iast (n := 89) (q := 17) B dX8_layOut_16 rfl (us_eq _ _ _) (fun _ => rfl) (by decide) (by omega) (by omega) ?_
        refine g_eqS (us_us _ _ _ _) ?_
        refine g_iconst (q := 18) B dX8_layOut_17 rfl ?_
        refine g_istore_n (q := 19) B dX8_layOut_18 rfl (by decide) (L' := [(3, .int (iI 0)), (0, .ref (yA Y 82)), (1, .ref (yA Y n)), (2, .int (iI ((k : Int))))]) rfl ?_
        refine g_sub [1, 2, 3, 0] rfl ?_
        exact lp19 _ 0 _ _ _ (by first | rfl | omega) (by first | rfl | omega) (by first | assumption | omega) (by intro k1 h0 h1 q hq; rw [uq_ne _ _ (by omega)]; exact hD k1 h0 h1 q hq) (by intro q hq; rw [show q = 0 by omega]; exact (congrArg _ (show 17 * (k : Int) + ((0 : Nat) : Int) = 17 * k + 0 by omega)).trans (uq_eq _ _ _)) (by first | assumption | omega) (Nat.lt_succ_self _)
  refine g_iconst (q := 1) B dX8_layOut_0 rfl ?_
  refine g_istore_n (q := 2) B dX8_layOut_1 rfl (by decide) (L' := [(2, .int (iI 0)), (0, .ref (yA Y 82)), (1, .ref (yA Y n))]) rfl ?_
  refine g_sub [1, 2, 0] rfl ?_
  refine g_eqS ((us_id S 89).symm) ?_
  exact lp2 _ 0 (S 89) _ (by first | rfl | omega) (by first | assumption | omega) (by intro k1 h0 h1; omega) (Nat.lt_succ_self _)
