set_option maxHeartbeats 4000000 in
theorem c_X8_fewestOf {Y : gY} {l : Launch} {S : SS} {n : Nat} (hm : isM n) (hw : wf (mw S n)) : gM Y l mX8_fewestOf S [.ref (yA Y 82), .ref (yA Y n)] (pV (.int (iI (fewF (mw S n)))) (fun S' => ∃ D T : Int → Int, feE (mw S n) T ∧ S' = us (us S 89 D) 90 T)) := by
  refine gM_of (by decide) (Nat.le_of_ble_eq_true rfl) ?_
  intro X hXl B E
  obtain ⟨⟨hn0, hn16⟩, ⟨hb0, hb1⟩, ⟨hm0, hm1⟩, ⟨hs0, hs1⟩, ⟨hc0, hc1⟩, hct, hkw, how⟩ := wfT hw
  have hn9 : n ≠ 89 := by rcases hm with h | h <;> omega
  have hn90 : n ≠ 90 := by rcases hm with h | h <;> omega
  show gW Y X S 0 [(0, .ref (yA Y 82)), (1, .ref (yA Y n))] []
  have lp7 : ∀ (fu : Nat) (k : Nat) (D T : Int → Int) (x2 : Int) , x2 = ((k : Int)) → lay (mw S n) D → k ≤ 7 → (∀ j : Int, 0 ≤ j → j < k → leW (mw S n) j ≠ 0) → 8 - k < fu → gW Y X (us (us S 89 D) 90 T) 7 [(0, .ref (yA Y 82)), (1, .ref (yA Y n)), (2, .int (iI x2))] [] := by
    intro fu
    induction fu with
    | zero =>
      intro k D T x2 e_x2 hD hk hz hfu
      exact absurd hfu (Nat.not_lt_zero _)
    | succ fu ih =>
      intro k D T x2 e_x2 hD hk hz hfu
      subst e_x2
      refine g_iload_n (q := 8) B dX8_fewestOf_7 rfl 2 rfl ?_
      refine g_bipush (q := 10) B dX8_fewestOf_8 rfl (by decide) ?_
      refine g_icmp_gt (t := 32) (q := 13) B dX8_fewestOf_10 (by decide) rfl ⟨by omega, by omega⟩ ⟨by omega, by omega⟩ (fun cq10 => ?_) (fun cq10 => ?_)
      · refine g_iconst (q := 33) B dX8_fewestOf_32 rfl ?_
        refine g_iret B E dX8_fewestOf_33 ?_
        obtain ⟨e, hf⟩ := feE_of (g := mw S n) (T := T) (x := -1) (Or.inl ⟨rfl, fun j j0 j1 => hz j j0 (by omega)⟩) (fun z => absurd z (by decide))
        exact ⟨by rw [e], D, T, hf, rfl⟩
      · refine g_aload_n (q := 14) B dX8_fewestOf_13 rfl 0 rfl ?_
        refine g_aload_n (q := 15) B dX8_fewestOf_14 rfl 1 rfl ?_
        refine g_iconst (q := 16) B dX8_fewestOf_15 rfl ?_
        refine g_iald (n := n) (q := 17) B dX8_fewestOf_16 rfl ((us_ne _ _ (by omega)).trans ((us_ne _ _ (by omega)).trans rfl)) (cw_M hm (S n)) (by decide) (by omega) (by omega) ?_
        refine g_iload_n (q := 18) B dX8_fewestOf_17 rfl 2 rfl ?_
        refine g_callV (n := 82) (ty := tyX8) (q := 21) (As := [.int (iI (S n 0)), .int (iI ((k : Int)))]) (st := []) B dX8_fewestOf_18 rfl (c_X8_leastWith (l := xL X) (S := (us (us S 89 D) 90 T)) (g := (mw S n)) hw hD (S n 0) ((k : Int)) rfl (by omega) (by omega)) eX8_leastWith w1191 (by decide) ((us_ne _ _ (by omega)).trans ((us_ne _ _ (by omega)).trans rfl)) rfl cls6 rfl rfl (Nat.le_of_ble_eq_true rfl) (g_kV (fun Sw hSw => ?_))
        obtain ⟨DSw, hDSw, rfl⟩ := hSw
        refine g_eqS (us_us _ _ _ _) ?_
        have hlr := isLe_in hw (by omega) (by omega) hDSw.1
        refine g_if_ne (t := 26) (q := 24) B dX8_fewestOf_21 (by decide) rfl ⟨by omega, by omega⟩ (fun cq21 => ?_) (fun cq21 => ?_)
        · refine g_iinc (n := 2) (q := 29) B dX8_fewestOf_26 rfl rfl (by decide) (L' := [(2, .int (iI ((k : Int) + 1))), (0, .ref (yA Y 82)), (1, .ref (yA Y n))]) rfl ?_
          refine g_goto (q := 7) B dX8_fewestOf_29 (by decide) ?_
          refine g_sub [1, 2, 0] rfl ?_
          have hz2 : ∀ j : Int, 0 ≤ j → j < ((k + 1 : Nat) : Int) → leW (mw S n) j ≠ 0 := by
            intro j j0 j1
            by_cases hj : j = k
            · subst hj; exact cq21
            · exact hz j j0 (by omega)
          exact ih (k + 1) D _ _ (by first | rfl | omega) (by first | assumption | omega) (by first | assumption | omega) (by exact hz2) (by omega)
        · refine g_iload_n (q := 25) B dX8_fewestOf_24 rfl 2 rfl ?_
          refine g_iret B E dX8_fewestOf_25 ?_
          obtain ⟨e, hf⟩ := feE_of (T := DSw) (x := (k : Int)) (Or.inr ⟨⟨by omega, by omega⟩, cq21, hz⟩) (fun _ => hDSw.2 cq21)
          exact ⟨by rw [e], D, DSw, hf, rfl⟩
  refine g_aload_n (q := 1) B dX8_fewestOf_0 rfl 0 rfl ?_
  refine g_aload_n (q := 2) B dX8_fewestOf_1 rfl 1 rfl ?_
  refine g_callV (n := 82) (ty := tyX8) (q := 5) (As := [.ref (yA Y n)]) (st := []) B dX8_fewestOf_2 rfl (c_X8_layOut (l := xL X) (S := S) hm hw) eX8_layOut w1187 (by decide) rfl rfl cls6 rfl rfl (Nat.le_of_ble_eq_true rfl) (g_k0 (fun Sl hSl => ?_))
  obtain ⟨DSl, hDSl, rfl⟩ := hSl
  refine g_iconst (q := 6) B dX8_fewestOf_5 rfl ?_
  refine g_istore_n (q := 7) B dX8_fewestOf_6 rfl (by decide) (L' := [(2, .int (iI 0)), (0, .ref (yA Y 82)), (1, .ref (yA Y n))]) rfl ?_
  refine g_sub [1, 2, 0] rfl ?_
  refine g_eqS ((us_id (us S 89 DSl) 90).symm) ?_
  exact lp7 _ 0 _ (S 90) _ (by first | rfl | omega) (by exact hDSl) (by first | assumption | omega) (by intro j j0 j1; omega) (Nat.lt_succ_self _)
