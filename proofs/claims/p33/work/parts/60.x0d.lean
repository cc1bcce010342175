set_option maxHeartbeats 4000000 in
theorem c_X0_leastFrom {Y : gY} {l : Launch} {S : SS} {g : Int → Int} (hw : wf g) (m : Nat) (hm6 : m ≤ 6) (jq : Nat) (ihr : ∀ (S : SS) (r : Nat) (t : Int → Int), jq ≠ 0 → wd S g → preW (g 0) r t → r + (jq - 1) = m → gM Y l (mX0_leastFrom (jq - 1)) S [.ref (yA Y 77), .int (iI (m : Int)), .int (iI (r : Int)), .int (iI (lst t r)), .long (lI (pkF (fun k => fsP g k t r)))] (pV (.int (iI (lgV g m r t))) (fun S' => S' = S))) (hd : wd S g) (r : Nat) (t : Int → Int) (ht : preW (g 0) r t) (hr : r + jq = m) : gM Y l (mX0_leastFrom jq) S [.ref (yA Y 77), .int (iI ((m : Int))), .int (iI ((r : Int))), .int (iI (lst t r)), .long (lI (pkF (fun k => fsP g k t r)))] (pV (.int (iI (lgV g m r t))) (fun S' => S' = S)) := by
  refine gM_of rfl (Nat.le_of_ble_eq_true rfl) ?_
  intro X hXl B E
  subst hXl
  have hn := hw.1
  have hl := preW_lst ht hn.1
  have hd0 := hd.1
  show gW Y X S 0 [(0, .ref (yA Y 77)), (1, .int (iI ((m : Int)))), (2, .int (iI ((r : Int)))), (3, .int (iI (lst t r))), (4, .long (lI (pkF (fun k => fsP g k t r))))] []
  have lp23 : ∀ (fu : Nat) (pw : Nat) (lx : Int) (x1 x2 x3 x4 x7 : Int) , x1 = ((m : Int)) → x2 = ((r : Int)) → x3 = (lst t r) → x4 = (pkF (fun k => fsP g k t r)) → x7 = ((pw : Int)) → lst t r < (pw : Int) ∧ (pw : Int) ≤ g 0 + 1 → mnG g m r t pw lx → (g 0).toNat + 2 - pw < fu → gW Y X S 23 [(0, .ref (yA Y 77)), (1, .int (iI x1)), (2, .int (iI x2)), (3, .int (iI x3)), (4, .long (lI x4)), (6, .int (iI lx)), (7, .int (iI x7))] [] := by
    intro fu
    induction fu with
    | zero =>
      intro pw lx x1 x2 x3 x4 x7 e_x1 e_x2 e_x3 e_x4 e_x7 hp hmn hfu
      exact absurd hfu (Nat.not_lt_zero _)
    | succ fu ih =>
      intro pw lx x1 x2 x3 x4 x7 e_x1 e_x2 e_x3 e_x4 e_x7 hp hmn hfu
      subst e_x1
      subst e_x2
      subst e_x3
      subst e_x4
      subst e_x7
      have hlx := hadG_in hw hmn.1
      refine g_iload_n (q := 24) B dX0_leastFrom_23 rfl 2 rfl ?_
      refine g_iload_n (q := 25) B dX0_leastFrom_24 rfl 1 rfl ?_
      refine g_icmp_ge (t := 70) (q := 28) B dX0_leastFrom_25 (by decide) rfl ⟨by omega, by omega⟩ ⟨by omega, by omega⟩ (fun cq25 => ?_) (fun cq25 => ?_)
      · refine g_iload (q := 72) B dX0_leastFrom_70 rfl 5 rfl ?_
        refine g_iret B E dX0_leastFrom_72 ?_
        exact ⟨congrArg (fun z => some (Value.int (iI z))) (mnG_n hmn (by omega)).symm, rfl⟩
      · refine g_iload (q := 30) B dX0_leastFrom_28 rfl 6 rfl ?_
        refine g_aload_n (q := 31) B dX0_leastFrom_30 rfl 0 rfl ?_
        refine g_get (n := 77) (ty := tyX0) (q := 34) (v := .int (iI (S 77 0))) B dX0_leastFrom_31 rfl rfl rfl cls0 2 (by decide) w129 rfl ?_
        refine g_icmp_ge (t := 70) (q := 37) B dX0_leastFrom_34 (by decide) rfl ⟨by omega, by omega⟩ ⟨by omega, by omega⟩ (fun cq34 => ?_) (fun cq34 => ?_)
        · refine g_iload (q := 72) B dX0_leastFrom_70 rfl 5 rfl ?_
          refine g_iret B E dX0_leastFrom_72 ?_
          exact ⟨congrArg (fun z => some (Value.int (iI z))) (mnG_n hmn (by omega)).symm, rfl⟩
        · refine g_iload (q := 39) B dX0_leastFrom_37 rfl 5 rfl ?_
          refine g_aload_n (q := 40) B dX0_leastFrom_39 rfl 0 rfl ?_
          refine g_iload_n (q := 41) B dX0_leastFrom_40 rfl 1 rfl ?_
          refine g_iload_n (q := 42) B dX0_leastFrom_41 rfl 2 rfl ?_
          refine g_iconst (q := 43) B dX0_leastFrom_42 rfl ?_
          refine g_iadd (q := 44) B dX0_leastFrom_43 rfl ?_
          refine g_iload (q := 46) B dX0_leastFrom_44 rfl 6 rfl ?_
          refine g_aload_n (q := 47) B dX0_leastFrom_46 rfl 0 rfl ?_
          refine g_lload (q := 49) B dX0_leastFrom_47 rfl 4 rfl ?_
          refine g_iload_n (q := 50) B dX0_leastFrom_49 rfl 2 rfl ?_
          refine g_iload_n (q := 51) B dX0_leastFrom_50 rfl 3 rfl ?_
          refine g_iload (q := 53) B dX0_leastFrom_51 rfl 6 rfl ?_
          refine g_callV (n := 77) (ty := tyX0) (q := 56) (As := [.long (lI (pkF (fun k => fsP g k t r))), .int (iI ((r : Int))), .int (iI (lst t r)), .int (iI ((pw : Int)))]) (st := [.int (iI ((pw : Int))), .int (iI (((r : Int)) + 1)), .int (iI ((m : Int))), .ref (yA Y 77), .int (iI lx)]) B dX0_leastFrom_53 rfl (c_X0_withRun (l := xL X) (S := S) hd (by omega) (fun k => fsP g k t r) ((r : Int)) (lst t r) ((pw : Int)) (by omega) (by omega) (by omega)) eX0_withRun w719 (show 1 + 1 ≤ 2 + jq by omega) rfl rfl cls0 rfl rfl (Nat.le_of_ble_eq_true rfl) (g_kE ?_)
          have hpt : preW (g 0) (r + 1) (uq t r pw) := preW_up ht hp.1 (by omega)
          have hih := ihr S (r + 1) (uq t r pw) (by omega) hd hpt (by omega)
          rw [lst_s, uq_eq, fsP_up, show ((r + 1 : Nat) : Int) = (r : Int) + 1 by omega] at hih
          refine g_callS (q := 59) (As := [.ref (yA Y 77), .int (iI ((m : Int))), .int (iI (((r : Int)) + 1)), .int (iI ((pw : Int))), .long (lI (pkF (wrF g (fun k => fsP g k t r) ((r : Int)) (lst t r) ((pw : Int)))))]) (st := [.int (iI lx)]) B dX0_leastFrom_56 rfl (hih) (eX0_leastFrom (jq - 1)) w799 (show 2 + (jq - 1) + 1 ≤ 2 + jq by omega) rfl rfl (Nat.le_of_ble_eq_true rfl) (g_kE ?_)
          have hlv := hadG_in hw (lgV_ex hw hpt (m := m) (by omega)).1
          refine g_min (q := 62) B dX0_leastFrom_59 rfl w778 wst_min w32 wco_min (show 1 ≤ 2 + jq by omega) (Nat.le_of_ble_eq_true rfl) ⟨by omega, by omega⟩ ⟨by omega, by omega⟩ ?_
          refine g_istore (q := 64) B dX0_leastFrom_62 rfl (Nat.le_of_ble_eq_true rfl) (L' := [(6, .int (iI (if lgV g m (r + 1) (uq t r pw) < lx then lgV g m (r + 1) (uq t r pw) else lx))), (0, .ref (yA Y 77)), (1, .int (iI ((m : Int)))), (2, .int (iI ((r : Int)))), (3, .int (iI (lst t r))), (4, .long (lI (pkF (fun k => fsP g k t r)))), (7, .int (iI ((pw : Int))))]) rfl ?_
          refine g_iinc (n := 6) (q := 67) B dX0_leastFrom_64 rfl rfl (Nat.le_of_ble_eq_true rfl) (L' := [(7, .int (iI ((pw : Int) + 1))), (6, .int (iI (if lgV g m (r + 1) (uq t r pw) < lx then lgV g m (r + 1) (uq t r pw) else lx))), (0, .ref (yA Y 77)), (1, .int (iI ((m : Int)))), (2, .int (iI ((r : Int)))), (3, .int (iI (lst t r))), (4, .long (lI (pkF (fun k => fsP g k t r))))]) rfl ?_
          refine g_goto (q := 23) B dX0_leastFrom_67 (by decide) ?_
          refine g_sub [2, 3, 4, 5, 6, 1, 0] rfl ?_
          exact ih (pw + 1) (if lgV g m (r + 1) (uq t r pw) < lx then lgV g m (r + 1) (uq t r pw) else lx) _ _ _ _ _ (by first | rfl | omega) (by first | rfl | omega) (by first | rfl | omega) (by first | rfl | omega) (by first | rfl | omega) (by first | assumption | omega) (by rw [show ((pw + 1 : Nat) : Int) = (pw : Int) + 1 by omega]; exact mnG_s hw ht (by omega) hp.1 (by omega) hmn) (by omega)
  refine g_aload_n (q := 1) B dX0_leastFrom_0 rfl 0 rfl ?_
  refine g_aload_n (q := 2) B dX0_leastFrom_1 rfl 0 rfl ?_
  refine g_lload (q := 4) B dX0_leastFrom_2 rfl 4 rfl ?_
  refine g_iload_n (q := 5) B dX0_leastFrom_4 rfl 2 rfl ?_
  refine g_iload_n (q := 6) B dX0_leastFrom_5 rfl 3 rfl ?_
  refine g_aload_n (q := 7) B dX0_leastFrom_6 rfl 0 rfl ?_
  refine g_get (n := 77) (ty := tyX0) (q := 10) (v := .int (iI (S 77 0))) B dX0_leastFrom_7 rfl rfl rfl cls0 2 (by decide) w129 rfl ?_
  refine g_eqT (st' := [.int (iI (g 0)), .int (iI (lst t r)), .int (iI ((r : Int))), .long (lI (pkF (fun k => fsP g k t r))), .ref (yA Y 77), .ref (yA Y 77)]) (congrArg (fun z => Value.int (iI z) :: [.int (iI (lst t r)), .int (iI ((r : Int))), .long (lI (pkF (fun k => fsP g k t r))), .ref (yA Y 77), .ref (yA Y 77)]) (show S 77 0 = g 0 by exact hd0)) ?_
  refine g_callV (n := 77) (ty := tyX0) (q := 13) (As := [.long (lI (pkF (fun k => fsP g k t r))), .int (iI ((r : Int))), .int (iI (lst t r)), .int (iI (g 0))]) (st := [.ref (yA Y 77)]) B dX0_leastFrom_10 rfl (c_X0_withRun (l := xL X) (S := S) hd (by omega) (fun k => fsP g k t r) ((r : Int)) (lst t r) (g 0) (by omega) (by omega) (by omega)) eX0_withRun w719 (show 1 + 1 ≤ 2 + jq by omega) rfl rfl cls0 rfl rfl (Nat.le_of_ble_eq_true rfl) (g_kE ?_)
  refine g_callV (n := 77) (ty := tyX0) (q := 16) (As := [.long (lI (pkF (wrF g (fun k => fsP g k t r) ((r : Int)) (lst t r) (g 0))))]) (st := []) B dX0_leastFrom_13 rfl (c_X0_gapOf (l := xL X) (S := S) hd hw (wrF g (fun k => fsP g k t r) (r : Int) (lst t r) (g 0)) (fsE_R hw ht)) eX0_gapOf w802 (show 1 + 1 ≤ 2 + jq by omega) rfl rfl cls0 rfl rfl (Nat.le_of_ble_eq_true rfl) (g_kE ?_)
  have := sm_gpS hw (s := wrF g (fun k => fsP g k t r) (r : Int) (lst t r) (g 0)) (fsE_R hw ht) 4 (by decide)
  have hgS : gapS g (wrF g (fun k => fsP g k t r) (r : Int) (lst t r) (g 0)) = sm (gpS g (wrF g (fun k => fsP g k t r) (r : Int) (lst t r) (g 0))) 4 := rfl
  refine g_istore (q := 18) B dX0_leastFrom_16 rfl (Nat.le_of_ble_eq_true rfl) (L' := [(6, .int (iI (gapS g (wrF g (fun k => fsP g k t r) (r : Int) (lst t r) (g 0))))), (0, .ref (yA Y 77)), (1, .int (iI ((m : Int)))), (2, .int (iI ((r : Int)))), (3, .int (iI (lst t r))), (4, .long (lI (pkF (fun k => fsP g k t r))))]) rfl ?_
  refine g_iload_n (q := 19) B dX0_leastFrom_18 rfl 4 rfl ?_
  refine g_iconst (q := 20) B dX0_leastFrom_19 rfl ?_
  refine g_iadd (q := 21) B dX0_leastFrom_20 rfl ?_
  refine g_istore (q := 23) B dX0_leastFrom_21 rfl (Nat.le_of_ble_eq_true rfl) (L' := [(7, .int (iI ((lst t r) + 1))), (6, .int (iI (gapS g (wrF g (fun k => fsP g k t r) (r : Int) (lst t r) (g 0))))), (0, .ref (yA Y 77)), (1, .int (iI ((m : Int)))), (2, .int (iI ((r : Int)))), (3, .int (iI (lst t r))), (4, .long (lI (pkF (fun k => fsP g k t r))))]) rfl ?_
  refine g_sub [2, 3, 4, 5, 6, 1, 0] rfl ?_
  exact lp23 _ ((lst t r + 1).toNat) _ _ _ _ _ _ (by first | rfl | omega) (by first | rfl | omega) (by first | rfl | omega) (by first | rfl | omega) (by omega) (by first | assumption | omega) (by rw [show (((lst t r + 1).toNat : Nat) : Int) = lst t r + 1 by omega]; exact mnG_0 ht (by omega)) (Nat.lt_succ_self _)
