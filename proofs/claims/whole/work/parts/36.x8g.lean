set_option maxHeartbeats 4000000 in
theorem c_X8_divide {Y : gY} {l : Launch} {S : SS} (hw : wf (mw S 84)) (ha : 0 ≤ S 82 2 ∧ S 82 2 ≤ 14) : gM Y l mX8_divide S [.ref (yA Y 82)] (pD S) := by
  refine gM_of (by decide) (Nat.le_of_ble_eq_true rfl) ?_
  intro X hXl B E
  obtain ⟨⟨hn0, hn16⟩, ⟨hb0, hb1⟩, ⟨hm0, hm1⟩, ⟨hs0, hs1⟩, ⟨hc0, hc1⟩, hct, hkw, how⟩ := wfT hw
  show gW Y X S 0 [(0, .ref (yA Y 82))] []
  have lp41 : ∀ (fu : Nat) (c : Nat) (Sx : SS) (x1 x2 : Int) , x1 = (fewF (mw S 84)) → x2 = ((c : Int)) → (c : Int) ≤ fewF (mw S 84) → -1 ≤ fewF (mw S 84) ∧ fewF (mw S 84) ≤ 6 → lexL (mw S 84) (fewF (mw S 84)) (Sx 90) → mw Sx 84 = uq (mw S 84) 5 (ctN (Sx 90) c : Nat) → fy S Sx → 7 - c < fu → gW Y X Sx 41 [(0, .ref (yA Y 82)), (1, .int (iI x1)), (2, .int (iI x2))] [] := by
    intro fu
    induction fu with
    | zero =>
      intro c Sx x1 x2 e_x1 e_x2 hc hfr hL hv hf hfu
      exact absurd hfu (Nat.not_lt_zero _)
    | succ fu ih =>
      intro c Sx x1 x2 e_x1 e_x2 hc hfr hL hv hf hfu
      subst e_x1
      subst e_x2
      have h5x : Sx 84 5 = ((ctN (Sx 90) c : Nat) : Int) := by have e := congrFun hv 5; rw [uq_eq] at e; exact e
      refine g_iload_n (q := 42) B dX8_divide_41 rfl 2 rfl ?_
      refine g_iload_n (q := 43) B dX8_divide_42 rfl 1 rfl ?_
      refine g_icmp_ge (t := 69) (q := 46) B dX8_divide_43 (by decide) rfl ⟨by omega, by omega⟩ ⟨by omega, by omega⟩ (fun cq43 => ?_) (fun cq43 => ?_)
      · refine g_aload_n (q := 70) B dX8_divide_69 rfl 0 rfl ?_
        refine g_get (n := 82) (ty := tyX8) (q := 73) (v := .ref (yA Y 84)) B dX8_divide_70 rfl rfl rfl cls6 3 (by decide) w954 rfl ?_
        refine g_iconst (q := 74) B dX8_divide_73 rfl ?_
        have hcc : (c : Int) = fewF (mw S 84) := by omega
        have hcw := wf_ct hw (c := (c : Int)) (by omega) (by rw [hcc]; exact hL.1)
        rw [show ((c : Int)).toNat = c by omega, ← hv] at hcw
        refine g_callS (q := 77) (As := [.ref (yA Y 84), .int (iI 0)]) (st := []) B dX8_divide_74 rfl (c_X8_dealOn (l := xL X) (S := Sx) (Or.inl rfl) hcw.1 0 ⟨by omega, by omega⟩ hcw.2) eX8_dealOn w1092 (by decide) rfl rfl (Nat.le_of_ble_eq_true rfl) (g_kV (fun Sz hSz => ?_))
        obtain ⟨hvSz, hfSz⟩ := hSz
        have := gapF_in hcw.2
        refine g_pop (q := 78) B dX8_divide_77 rfl rfl ?_
        refine g_iload_n (q := 79) B dX8_divide_78 rfl 1 rfl ?_
        refine g_iret B E dX8_divide_79 ?_
        have ec : (fewF (mw S 84)).toNat = c := by omega
        exact ⟨by rw [if_neg (by omega)], fun z => by omega, fun _ => ⟨by rw [hvSz, hv, dvF_of hL (by omega), ec], fy_m hf hfSz⟩⟩
      · have htc := (hL.1 (c : Int) (by omega) (by omega)).1
        rw [mw_0] at htc
        have hpw := pow2_lt (p := Sx 90 (c : Int)) (by omega)
        have e2p : (1 : Int) * 2 ^ (Sx 90 (c : Int)).toNat = ((2 ^ (Sx 90 (c : Int)).toNat : Nat) : Int) := by rw [Int.one_mul]; exact (Int.natCast_pow 2 _).symm
        refine g_aload_n (q := 47) B dX8_divide_46 rfl 0 rfl ?_
        refine g_get (n := 82) (ty := tyX8) (q := 50) (v := .ref (yA Y 84)) B dX8_divide_47 rfl rfl rfl cls6 3 (by decide) w954 rfl ?_
        refine g_iconst (q := 51) B dX8_divide_50 rfl ?_
        refine g_dup2 (q := 52) B dX8_divide_51 rfl rfl rfl ?_
        refine g_iald (n := 84) (q := 53) B dX8_divide_52 rfl rfl rfl (by decide) (by omega) (by omega) ?_
        refine g_iconst (q := 54) B dX8_divide_53 rfl ?_
        refine g_aload_n (q := 55) B dX8_divide_54 rfl 0 rfl ?_
        refine g_get (n := 82) (ty := tyX8) (q := 58) (v := .ref (yA Y 90)) B dX8_divide_55 rfl rfl rfl cls6 10 (by decide) w961 rfl ?_
        refine g_iload_n (q := 59) B dX8_divide_58 rfl 2 rfl ?_
        refine g_iald (n := 90) (q := 60) B dX8_divide_59 rfl rfl rfl (by decide) (by omega) (by omega) ?_
        refine g_ishl (v := (iI (1 * 2 ^ (Sx 90 (c : Int)).toNat))) (q := 61) B dX8_divide_60 rfl (iI_shl (by omega) (by omega) (by omega) (by omega)) ?_
        refine g_ior (v := (iI (((ctN (Sx 90) c ||| 2 ^ (Sx 90 (c : Int)).toNat : Nat) : Int)))) (q := 62) B dX8_divide_61 rfl (by rw [h5x, e2p]; exact iI_orN _ _) ?_
        refine g_iast (n := 84) (q := 63) B dX8_divide_62 rfl rfl (fun _ => rfl) (by decide) (by omega) (by omega) ?_
        refine g_iinc (n := 2) (q := 66) B dX8_divide_63 rfl rfl (by decide) (L' := [(2, .int (iI ((c : Int) + 1))), (0, .ref (yA Y 82)), (1, .int (iI (fewF (mw S 84))))]) rfl ?_
        refine g_goto (q := 41) B dX8_divide_66 (by decide) ?_
        refine g_sub [1, 2, 0] rfl ?_
        exact ih (c + 1) _ _ _ (by first | rfl | omega) (by first | rfl | omega) (by first | assumption | omega) (by first | assumption | omega) (by exact hL) (by rw [mw_us Sx 84 (by decide) (by decide), hv, uq_uq]; rfl) (by exact fy_s hf) (by omega)
  refine g_aload_n (q := 1) B dX8_divide_0 rfl 0 rfl ?_
  refine g_aload_n (q := 2) B dX8_divide_1 rfl 0 rfl ?_
  refine g_get (n := 82) (ty := tyX8) (q := 5) (v := .ref (yA Y 84)) B dX8_divide_2 rfl rfl rfl cls6 3 (by decide) w954 rfl ?_
  refine g_callV (n := 82) (ty := tyX8) (q := 8) (As := [.ref (yA Y 84)]) (st := []) B dX8_divide_5 rfl (c_X8_fewestOf (l := xL X) (S := S) (Or.inl rfl) hw) eX8_fewestOf w1182 (by decide) rfl rfl cls6 rfl rfl (Nat.le_of_ble_eq_true rfl) (g_kV (fun Sy hSy => ?_))
  obtain ⟨DSy, TSy, hFSy, rfl⟩ := hSy
  have hfrSy := isFe_in hFSy.1
  have hF : feE (mw S 84) TSy := hFSy
  have hfr := isFe_in hF.1
  refine g_istore_n (q := 9) B dX8_divide_8 rfl (by decide) (L' := [(1, .int (iI (fewF (mw S 84)))), (0, .ref (yA Y 82))]) rfl ?_
  refine g_aload_n (q := 10) B dX8_divide_9 rfl 1 rfl ?_
  refine g_iload_n (q := 11) B dX8_divide_10 rfl 0 rfl ?_
  refine g_iconst (q := 12) B dX8_divide_11 rfl ?_
  refine g_icmp_ne (t := 19) (q := 15) B dX8_divide_12 (by decide) rfl ⟨by omega, by omega⟩ ⟨by omega, by omega⟩ (fun cq12 => ?_) (fun cq12 => ?_)
  · refine g_iconst (q := 20) B dX8_divide_19 rfl ?_
    refine g_callV (n := 82) (ty := tyX8) (q := 23) (As := [.int (iI 0)]) (st := []) B dX8_divide_20 rfl (c_X8_refused (l := xL X) (S := (us (us S 89 DSy) 90 TSy)) 0 ⟨by omega, by omega⟩) eX8_refused w1004 (by decide) ((us_ne _ _ (by omega)).trans ((us_ne _ _ (by omega)).trans rfl)) rfl cls6 rfl rfl (Nat.le_of_ble_eq_true rfl) (g_kE ?_)
    refine g_ifb_eq (t := 28) (q := 26) B dX8_divide_23 (by decide) rfl (fun cq23 => ?_) (fun cq23 => ?_)
    · refine g_aload_n (q := 29) B dX8_divide_28 rfl 1 rfl ?_
      refine g_callV (n := 82) (ty := tyX8) (q := 32) (As := []) (st := []) B dX8_divide_29 rfl (c_X8_remember (l := xL X) (S := (us (us (us S 89 DSy) 90 TSy) 82 ((uq (S 82) 0 0)))) ha) eX8_remember w1142 (by decide) (us_eq _ _ _) rfl cls6 rfl rfl (Nat.le_of_ble_eq_true rfl) (g_0E ?_)
      refine g_aload_n (q := 33) B dX8_divide_32 rfl 1 rfl ?_
      refine g_get (n := 82) (ty := tyX8) (q := 36) (v := .ref (yA Y 84)) B dX8_divide_33 rfl rfl rfl cls6 3 (by decide) w954 rfl ?_
      refine g_iconst (q := 37) B dX8_divide_36 rfl ?_
      refine g_iconst (q := 38) B dX8_divide_37 rfl ?_
      refine g_iast (n := 84) (q := 39) B dX8_divide_38 rfl rfl (fun _ => rfl) (by decide) (by omega) (by omega) ?_
      refine g_iconst (q := 40) B dX8_divide_39 rfl ?_
      refine g_istore_n (q := 41) B dX8_divide_40 rfl (by decide) (L' := [(2, .int (iI 0)), (1, .int (iI (fewF (mw S 84)))), (0, .ref (yA Y 82))]) rfl ?_
      refine g_sub [2, 1, 0] rfl ?_
      have hcn : ¬ fewF (mw S 84) = -1 := cq12
      exact lp41 _ 0 _ _ _ (by first | rfl | omega) (by first | rfl | omega) (by omega) (by exact hfr) (by exact hF.2 (by omega)) (by exact mw_us (rmU (us (us (us S 89 DSy) 90 TSy) 82 (uq (S 82) 0 0))) 84 (by decide) (by decide)) (by exact fy_0) (Nat.lt_succ_self _)
    · exact absurd cq23 (by decide)
  · refine g_iconst (q := 16) B dX8_divide_15 rfl ?_
    refine g_goto (q := 20) B dX8_divide_16 (by decide) ?_
    refine g_callV (n := 82) (ty := tyX8) (q := 23) (As := [.int (iI 1)]) (st := []) B dX8_divide_20 rfl (c_X8_refused (l := xL X) (S := (us (us S 89 DSy) 90 TSy)) 1 ⟨by omega, by omega⟩) eX8_refused w1004 (by decide) ((us_ne _ _ (by omega)).trans ((us_ne _ _ (by omega)).trans rfl)) rfl cls6 rfl rfl (Nat.le_of_ble_eq_true rfl) (g_kE ?_)
    refine g_ifb_eq (t := 28) (q := 26) B dX8_divide_23 (by decide) rfl (fun cq23 => ?_) (fun cq23 => ?_)
    · exact absurd cq23 (by decide)
    · refine g_iconst (q := 27) B dX8_divide_26 rfl ?_
      refine g_iret B E dX8_divide_27 ?_
      have hcn : fewF (mw S 84) = -1 := cq12
      exact ⟨by rw [if_pos hcn], fun _ => fz_d, fun z => absurd hcn z⟩
