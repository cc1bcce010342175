set_option maxHeartbeats 4000000 in
theorem c_X7_divide {Y : gY} {l : Launch} {S : SS} (hst : l.stackTraces = false) (hw : wf (vw S 0)) (hnx : 0 ≤ S 75 0 ∧ S 75 0 < 14) (hct : 0 ≤ S 75 1 ∧ S 75 1 ≤ 14) (h780 : S 78 0 = 0) : gV Y l mX7_divide S [.ref (yA Y 72)] (xO (cd_dv (fewF (vw S 0))) (fewF (vw S 0)) (fun S' => dvP S S')) (xE2 (cd_dv (fewF (vw S 0))) [eS] (fun S' => fdv S S')) := by
  refine gV_of hst (by decide) (Nat.le_of_ble_eq_true rfl) ?_
  intro X hXl B V
  obtain ⟨⟨hn0, hn16⟩, ⟨hb0, hb1⟩, ⟨hm0, hm1⟩, ⟨hs0, hs1⟩, ⟨hc0, hc1⟩, hctb, hkw, how, hun⟩ := wfS hw
  show gW Y X S 0 [(0, .ref (yA Y 72))] []
  have lp40 : ∀ (fu : Nat) (n : Nat) (Sx : SS) (x1 x2 : Int) , x1 = (fewF (vw S 0)) → x2 = ((n : Int)) → (n : Int) ≤ fewF (vw S 0) → -1 ≤ fewF (vw S 0) ∧ fewF (vw S 0) ≤ 6 → dvQ S Sx n → 7 - n < fu → gW Y X Sx 40 [(0, .ref (yA Y 72)), (1, .int (iI x1)), (2, .int (iI x2))] [] := by
    intro fu
    induction fu with
    | zero =>
      intro n Sx x1 x2 e_x1 e_x2 hn hfi hq hfu
      exact absurd hfu (Nat.not_lt_zero _)
    | succ fu ih =>
      intro n Sx x1 x2 e_x1 e_x2 hn hfi hq hfu
      subst e_x1
      subst e_x2
      have hwx : wf (vw Sx 0) := by rw [hq.1]; exact wf_lsT hw _ n
      refine g_iload_n (q := 41) B dX7_divide_40 rfl 2 rfl ?_
      refine g_iload_n (q := 42) B dX7_divide_41 rfl 1 rfl ?_
      refine g_icmp_ge (t := 68) (q := 45) B dX7_divide_42 (by decide) rfl ⟨by omega, by omega⟩ ⟨by omega, by omega⟩ (fun cq42 => ?_) (fun cq42 => ?_)
      · refine g_aload_n (q := 69) B dX7_divide_68 rfl 0 rfl ?_
        refine g_get (n := 72) (ty := tyX7) (q := 72) (v := .ref (yA Y (4 * 0))) B dX7_divide_69 rfl rfl rfl cls5 1 (by decide) w158 rfl ?_
        refine g_iconst (q := 73) B dX7_divide_72 rfl ?_
        refine g_callV (n := (4 * 0)) (ty := tyX2) (q := 76) (As := [.int (iI 0)]) (st := []) B dX7_divide_73 rfl (c_X2_dealRuns (l := xL X) (S := Sx) (by decide) hwx 0 ⟨by omega, by omega⟩) eX2_dealRuns w685 (by decide) rfl (cw_N (by decide) (Sx ((4 * 0)))) cls2 rfl rfl (Nat.le_of_ble_eq_true rfl) (g_kV (fun Sz hSz => ?_))
        obtain ⟨hvSz, hfSz⟩ := hSz
        refine g_pop (q := 77) B dX7_divide_76 rfl rfl ?_
        refine g_iload_n (q := 78) B dX7_divide_77 rfl 1 rfl ?_
        refine gx_iret B V dX7_divide_78 ?_
        have e0 : cd_dv (fewF (vw S 0)) = 0 := by unfold cd_dv; split <;> omega
        have ev : fewF (vw S 0) = fewF (vw S 0) := by rfl
        exact ⟨e0, by rw [ev], dvP_of hq (by omega) hvSz hfSz⟩
      · refine g_aload_n (q := 46) B dX7_divide_45 rfl 0 rfl ?_
        refine g_get (n := 72) (ty := tyX7) (q := 49) (v := .ref (yA Y (4 * 0))) B dX7_divide_46 rfl rfl rfl cls5 1 (by decide) w158 rfl ?_
        refine g_aload_n (q := 50) B dX7_divide_49 rfl 0 rfl ?_
        refine g_get (n := 72) (ty := tyX7) (q := 53) (v := .ref (yA Y 77)) B dX7_divide_50 rfl rfl rfl cls5 4 (by decide) w161 rfl ?_
        refine g_iload_n (q := 54) B dX7_divide_53 rfl 2 rfl ?_
        refine g_callV (n := 77) (ty := tyX0) (q := 57) (As := [.int (iI ((n : Int)))]) (st := [.ref (yA Y (4 * 0))]) B dX7_divide_54 rfl (c_X0_foundCut (l := xL X) (S := Sx) ((n : Int)) (by omega) (by omega)) eX0_foundCut w734 (by decide) rfl rfl cls0 rfl rfl (Nat.le_of_ble_eq_true rfl) (g_kE ?_)
        refine g_iconst (q := 58) B dX7_divide_57 rfl ?_
        have hec : Sx 79 (n : Int) = wyF (vw S 0) (n : Int) := hq.2.1 n (by omega)
        have hyc := wyF_in hw (c := (n : Int)) (by omega) (by omega)
        refine g_callV (n := (4 * 0)) (ty := tyX2) (q := 61) (As := [.int (iI (Sx 79 ((n : Int)))), .int (iI 1)]) (st := []) B dX7_divide_58 rfl (c_X2_setCut (l := xL X) (S := Sx) (by decide) hwx (Sx 79 ((n : Int))) 1 ⟨by omega, by omega⟩ (by omega)) eX2_setCut w738 (by decide) rfl (cw_N (by decide) (Sx ((4 * 0)))) cls2 rfl rfl (Nat.le_of_ble_eq_true rfl) (g_kV (fun Sn hSn => ?_))
        obtain ⟨hvSn, hfSn⟩ := hSn
        refine g_pop (q := 62) B dX7_divide_61 rfl rfl ?_
        refine g_iinc (n := 2) (q := 65) B dX7_divide_62 rfl rfl (by decide) (L' := [(2, .int (iI ((n : Int) + 1))), (0, .ref (yA Y 72)), (1, .int (iI (fewF (vw S 0))))]) rfl ?_
        refine g_goto (q := 40) B dX7_divide_65 (by decide) ?_
        refine g_sub [1, 2, 0] rfl ?_
        exact ih (n + 1) _ _ _ (by first | rfl | omega) (by first | rfl | omega) (by first | assumption | omega) (by first | assumption | omega) (by exact dvQ_s hq (by omega) rfl hvSn hfSn) (by omega)
  refine g_aload_n (q := 1) B dX7_divide_0 rfl 0 rfl ?_
  refine g_callV (n := 72) (ty := tyX7) (q := 4) (As := []) (st := []) B dX7_divide_1 rfl (c_X7_fewestCuts (l := xL X) (S := S) hw h780) eX7_fewestCuts w693 (by decide) rfl rfl cls5 rfl rfl (Nat.le_of_ble_eq_true rfl) (g_kV (fun Sy hSy => ?_))
  obtain ⟨hdSy, hfSy, hySy⟩ := hSy
  have hfi := isFe_in (isFe_ex (vw S 0))
  have hvy : fdv S Sy := ⟨hfSy, wd_0 hdSy hw.1.1⟩
  have e75 : Sy 75 = S 75 := hfSy 75 (by decide) (by decide) (by decide)
  refine g_istore_n (q := 5) B dX7_divide_4 rfl (by decide) (L' := [(1, .int (iI (fewF (vw S 0)))), (0, .ref (yA Y 72))]) rfl ?_
  refine g_iload_n (q := 6) B dX7_divide_5 rfl 0 rfl ?_
  refine g_iconst (q := 7) B dX7_divide_6 rfl ?_
  refine g_icmp_ne (t := 20) (q := 10) B dX7_divide_7 (by decide) rfl ⟨by omega, by omega⟩ ⟨by omega, by omega⟩ (fun cq7 => ?_) (fun cq7 => ?_)
  · refine g_aload_n (q := 21) B dX7_divide_20 rfl 1 rfl ?_
    refine g_get (n := 72) (ty := tyX7) (q := 24) (v := .ref (yA Y 75)) B dX7_divide_21 rfl rfl rfl cls5 3 (by decide) w160 rfl ?_
    refine g_aload_n (q := 25) B dX7_divide_24 rfl 1 rfl ?_
    refine g_get (n := 72) (ty := tyX7) (q := 28) (v := .ref (yA Y (4 * 0))) B dX7_divide_25 rfl rfl rfl cls5 1 (by decide) w158 rfl ?_
    refine g_callV (n := 75) (ty := tyX1) (q := 31) (As := [.ref (yA Y (4 * 0))]) (st := []) B dX7_divide_28 rfl (c_X1_remember (l := xL X) (S := Sy) (by rw [e75]; exact hnx) (by rw [e75]; exact hct)) eX1_remember w630 (by decide) rfl rfl cls1 rfl rfl (Nat.le_of_ble_eq_true rfl) (g_k0 (fun Sl hSl => ?_))
    obtain ⟨hrSl, ⟨hnSl, hkSl⟩, hfSl⟩ := hSl
    refine g_aload_n (q := 32) B dX7_divide_31 rfl 1 rfl ?_
    refine g_get (n := 72) (ty := tyX7) (q := 35) (v := .ref (yA Y (4 * 0))) B dX7_divide_32 rfl rfl rfl cls5 1 (by decide) w158 rfl ?_
    refine g_callV (n := (4 * 0)) (ty := tyX2) (q := 38) (As := []) (st := []) B dX7_divide_35 rfl (c_X2_loosen (l := xL X) (S := Sl) (by decide)) eX2_loosen w733 (by decide) rfl (cw_N (by decide) (Sl ((4 * 0)))) cls2 rfl rfl (Nat.le_of_ble_eq_true rfl) (g_k0 (fun Sm hSm => ?_))
    obtain ⟨hvSm, hfSm⟩ := hSm
    refine g_iconst (q := 39) B dX7_divide_38 rfl ?_
    refine g_istore_n (q := 40) B dX7_divide_39 rfl (by decide) (L' := [(2, .int (iI 0)), (1, .int (iI (fewF (vw S 0)))), (0, .ref (yA Y 72))]) rfl ?_
    refine g_sub [2, 1, 0] rfl ?_
    exact lp40 _ 0 _ _ _ (by first | rfl | omega) (by first | rfl | omega) (by first | assumption | omega) (by first | assumption | omega) (by exact dvQ_0 hnx hvy (fun c hc => hySy (by omega) c hc) ⟨hrSl, ⟨hnSl, hkSl⟩, hfSl⟩ hvSm hfSm) (Nat.lt_succ_self _)
  · refine gx_throw (cls := "java/lang/IllegalStateException") (text := "the string cannot be divided") B V gEx_S (by decide) (by decide) dX7_divide_10 dX7_divide_13 dX7_divide_14 dX7_divide_16 dX7_divide_19 ?_
    exact ⟨0, (show cd_dv (fewF (vw S 0)) = ((0 : Nat) : Int) + 1 by unfold cd_dv; split <;> omega), rfl, hvy⟩
set_option maxHeartbeats 4000000 in
theorem c_X7_bestBreak {Y : gY} {l : Launch} {S : SS} (hw : wf (vw S 0)) (h780 : S 78 0 = 0) : gM Y l mX7_bestBreak S [.ref (yA Y 72)] (pV (.int (iI (bkG (vw S 0) (S (4 * 0) 0).toNat).1)) (fun S' => fdv S S')) := by
  refine gM_of (by decide) (Nat.le_of_ble_eq_true rfl) ?_
  intro X hXl B E
  obtain ⟨⟨hn0, hn16⟩, ⟨hb0, hb1⟩, ⟨hm0, hm1⟩, ⟨hs0, hs1⟩, ⟨hc0, hc1⟩, hctb, hkw, how, hun⟩ := wfS hw
  show gW Y X S 0 [(0, .ref (yA Y 72))] []
  have lp7 : ∀ (fu : Nat) (n : Nat) (Sx : SS) (x1 x2 x3 : Int) , x1 = ((bkG (vw S 0) n).1) → x2 = ((bkG (vw S 0) n).2) → x3 = ((n : Int)) → (n : Int) ≤ S (4 * 0) 0 → fdv S Sx → 17 - n < fu → gW Y X Sx 7 [(0, .ref (yA Y 72)), (1, .int (iI x1)), (2, .int (iI x2)), (3, .int (iI x3))] [] := by
    intro fu
    induction fu with
    | zero =>
      intro n Sx x1 x2 x3 e_x1 e_x2 e_x3 hn hf hfu
      exact absurd hfu (Nat.not_lt_zero _)
    | succ fu ih =>
      intro n Sx x1 x2 x3 e_x1 e_x2 e_x3 hn hf hfu
      subst e_x1
      subst e_x2
      subst e_x3
      have evx : vw Sx 0 = vw S 0 := fdv_vw hf
      have e0 : Sx (4 * 0) 0 = S (4 * 0) 0 := congrFun evx 0
      have hbi := bkG_in (vw S 0) n
      have hwx : wf (vw Sx 0) := by rw [evx]; exact hw
      refine g_iload_n (q := 8) B dX7_bestBreak_7 rfl 3 rfl ?_
      refine g_aload_n (q := 9) B dX7_bestBreak_8 rfl 0 rfl ?_
      refine g_get (n := 72) (ty := tyX7) (q := 12) (v := .ref (yA Y (4 * 0))) B dX7_bestBreak_9 rfl rfl rfl cls5 1 (by decide) w158 rfl ?_
      refine g_get (n := (4 * 0)) (ty := tyX2) (q := 15) (v := .int (iI (Sx ((4 * 0)) 0))) B dX7_bestBreak_12 rfl rfl (cw_N (by decide) (Sx ((4 * 0)))) cls2 0 (by decide) w67 rfl ?_
      refine g_icmp_ge (t := 59) (q := 18) B dX7_bestBreak_15 (by decide) rfl ⟨by omega, by omega⟩ ⟨by omega, by omega⟩ (fun cq15 => ?_) (fun cq15 => ?_)
      · refine g_iload_n (q := 60) B dX7_bestBreak_59 rfl 1 rfl ?_
        refine g_iret B E dX7_bestBreak_60 ?_
        exact ⟨by rw [show (S (4 * 0) 0).toNat = n by omega], hf⟩
      · refine g_aload_n (q := 19) B dX7_bestBreak_18 rfl 0 rfl ?_
        refine g_get (n := 72) (ty := tyX7) (q := 22) (v := .ref (yA Y 77)) B dX7_bestBreak_19 rfl rfl rfl cls5 4 (by decide) w161 rfl ?_
        refine g_aload_n (q := 23) B dX7_bestBreak_22 rfl 0 rfl ?_
        refine g_get (n := 72) (ty := tyX7) (q := 26) (v := .ref (yA Y (4 * 0))) B dX7_bestBreak_23 rfl rfl rfl cls5 1 (by decide) w158 rfl ?_
        refine g_iload_n (q := 27) B dX7_bestBreak_26 rfl 3 rfl ?_
        refine g_callV (n := 77) (ty := tyX0) (q := 30) (As := [.ref (yA Y (4 * 0)), .int (iI ((n : Int)))]) (st := []) B dX7_bestBreak_27 rfl (c_X0_weigh (l := xL X) (S := Sx) (by decide) hwx ((n : Int)) (by omega) (by omega) hf.2) eX0_weigh w697 (by decide) rfl rfl cls0 rfl rfl (Nat.le_of_ble_eq_true rfl) (g_k0 (fun Sy hSy => ?_))
        obtain ⟨hdSy, hfSy⟩ := hSy
        rw [evx] at hdSy
        have hwb : wf (uq (vw S 0) 1 (n : Int)) := wf_brk1 hw (by omega) (Or.inl (by show _ < S (4 * 0) 0; omega))
        refine g_aload_n (q := 31) B dX7_bestBreak_30 rfl 0 rfl ?_
        refine g_get (n := 72) (ty := tyX7) (q := 34) (v := .ref (yA Y 77)) B dX7_bestBreak_31 rfl rfl rfl cls5 4 (by decide) w161 rfl ?_
        refine g_iload_n (q := 35) B dX7_bestBreak_34 rfl 2 rfl ?_
        refine g_callV (n := 77) (ty := tyX0) (q := 38) (As := [.int (iI ((bkG (vw S 0) n).2))]) (st := []) B dX7_bestBreak_35 rfl (c_X0_fewestByCuts (l := xL X) (S := Sy) hdSy hwb ((bkG (vw S 0) n).2) (by omega)) eX0_fewestByCuts w703 (by decide) rfl rfl cls0 rfl rfl (Nat.le_of_ble_eq_true rfl) (g_kV (fun Sz hSz => ?_))
        obtain ⟨hcSz, hySz⟩ := hSz
        have hfb := fbV_in (uq (vw S 0) 1 (n : Int)) ((bkG (vw S 0) n).2)
        refine g_istore (q := 40) B dX7_bestBreak_38 rfl (by decide) (L' := [(4, .int (iI (fbV (uq (vw S 0) 1 (n : Int)) ((bkG (vw S 0) n).2)))), (0, .ref (yA Y 72)), (1, .int (iI ((bkG (vw S 0) n).1))), (2, .int (iI ((bkG (vw S 0) n).2))), (3, .int (iI ((n : Int))))]) rfl ?_
        refine g_iload (q := 42) B dX7_bestBreak_40 rfl 0 rfl ?_
        refine g_iconst (q := 43) B dX7_bestBreak_42 rfl ?_
        refine g_icmp_eq (t := 53) (q := 46) B dX7_bestBreak_43 (by decide) rfl ⟨by omega, by omega⟩ ⟨by omega, by omega⟩ (fun cq43 => ?_) (fun cq43 => ?_)
        · refine g_iinc (n := 4) (q := 56) B dX7_bestBreak_53 rfl rfl (by decide) (L' := [(3, .int (iI ((n : Int) + 1))), (4, .int (iI (fbV (uq (vw S 0) 1 (n : Int)) ((bkG (vw S 0) n).2)))), (0, .ref (yA Y 72)), (1, .int (iI ((bkG (vw S 0) n).1))), (2, .int (iI ((bkG (vw S 0) n).2)))]) rfl ?_
          refine g_goto (q := 7) B dX7_bestBreak_56 (by decide) ?_
          refine g_sub [2, 3, 4, 0] rfl ?_
          have b1 := bkG_s1 (vw S 0) n
          have b2 := bkG_s2 (vw S 0) n
          exact ih (n + 1) _ _ _ _ (by rw [b1]; split <;> omega) (by rw [b2]; split <;> omega) (by first | rfl | omega) (by first | assumption | omega) (by exact fdv_s hf hfSy hcSz (wd_0 hdSy hwb.1.1)) (by omega)
        · refine g_iload_n (q := 47) B dX7_bestBreak_46 rfl 4 rfl ?_
          refine g_istore_n (q := 48) B dX7_bestBreak_47 rfl (by decide) (L' := [(1, .int (iI ((n : Int)))), (4, .int (iI (fbV (uq (vw S 0) 1 (n : Int)) ((bkG (vw S 0) n).2)))), (0, .ref (yA Y 72)), (2, .int (iI ((bkG (vw S 0) n).2))), (3, .int (iI ((n : Int))))]) rfl ?_
          refine g_iload (q := 50) B dX7_bestBreak_48 rfl 1 rfl ?_
          refine g_iconst (q := 51) B dX7_bestBreak_50 rfl ?_
          refine g_isub (q := 52) B dX7_bestBreak_51 rfl ?_
          refine g_istore_n (q := 53) B dX7_bestBreak_52 rfl (by decide) (L' := [(2, .int (iI ((fbV (uq (vw S 0) 1 (n : Int)) ((bkG (vw S 0) n).2)) - 1))), (1, .int (iI ((n : Int)))), (4, .int (iI (fbV (uq (vw S 0) 1 (n : Int)) ((bkG (vw S 0) n).2)))), (0, .ref (yA Y 72)), (3, .int (iI ((n : Int))))]) rfl ?_
          refine g_iinc (n := 4) (q := 56) B dX7_bestBreak_53 rfl rfl (by decide) (L' := [(3, .int (iI ((n : Int) + 1))), (2, .int (iI ((fbV (uq (vw S 0) 1 (n : Int)) ((bkG (vw S 0) n).2)) - 1))), (1, .int (iI ((n : Int)))), (4, .int (iI (fbV (uq (vw S 0) 1 (n : Int)) ((bkG (vw S 0) n).2)))), (0, .ref (yA Y 72))]) rfl ?_
          refine g_goto (q := 7) B dX7_bestBreak_56 (by decide) ?_
          refine g_sub [4, 2, 1, 0] rfl ?_
          have b1 := bkG_s1 (vw S 0) n
          have b2 := bkG_s2 (vw S 0) n
          exact ih (n + 1) _ _ _ _ (by rw [b1]; split <;> omega) (by rw [b2]; split <;> omega) (by first | rfl | omega) (by first | assumption | omega) (by exact fdv_s hf hfSy hcSz (wd_0 hdSy hwb.1.1)) (by omega)
  refine g_iconst (q := 1) B dX7_bestBreak_0 rfl ?_
  refine g_istore_n (q := 2) B dX7_bestBreak_1 rfl (by decide) (L' := [(1, .int (iI (-1))), (0, .ref (yA Y 72))]) rfl ?_
  refine g_bipush (q := 4) B dX7_bestBreak_2 rfl (by decide) ?_
  refine g_istore_n (q := 5) B dX7_bestBreak_4 rfl (by decide) (L' := [(2, .int (iI 6)), (1, .int (iI (-1))), (0, .ref (yA Y 72))]) rfl ?_
  refine g_iconst (q := 6) B dX7_bestBreak_5 rfl ?_
  refine g_istore_n (q := 7) B dX7_bestBreak_6 rfl (by decide) (L' := [(3, .int (iI 0)), (2, .int (iI 6)), (1, .int (iI (-1))), (0, .ref (yA Y 72))]) rfl ?_
  refine g_sub [3, 2, 1, 0] rfl ?_
  exact lp7 _ 0 _ _ _ _ (by first | rfl | omega) (by first | rfl | omega) (by first | rfl | omega) (by first | assumption | omega) (by exact fdv_r h780) (Nat.lt_succ_self _)
set_option maxHeartbeats 4000000 in
theorem c_X7_bestRun {Y : gY} {l : Launch} {S : SS} (hw : wf (vw S 0)) : gM Y l mX7_bestRun S [.ref (yA Y 72)] (pV (.int (iI (ckG (vw S 0) (runsF (vw S 0)).toNat).1)) (fun S' => fr S S' 1)) := by
  refine gM_of (by decide) (Nat.le_of_ble_eq_true rfl) ?_
  intro X hXl B E
  obtain ⟨⟨hn0, hn16⟩, ⟨hb0, hb1⟩, ⟨hm0, hm1⟩, ⟨hs0, hs1⟩, ⟨hc0, hc1⟩, hctb, hkw, how, hun⟩ := wfS hw
  have hrr := runsF_in (vw S 0)
  show gW Y X S 0 [(0, .ref (yA Y 72))] []
  have lp6 : ∀ (fu : Nat) (n : Nat) (Sx : SS) (x1 x2 x3 : Int) , x1 = ((ckG (vw S 0) n).1) → x2 = ((ckG (vw S 0) n).2) → x3 = ((n : Int)) → (n : Int) ≤ runsF (vw S 0) → fr S Sx 1 → 17 - n < fu → gW Y X Sx 6 [(0, .ref (yA Y 72)), (1, .int (iI x1)), (2, .int (iI x2)), (3, .int (iI x3))] [] := by
    intro fu
    induction fu with
    | zero =>
      intro n Sx x1 x2 x3 e_x1 e_x2 e_x3 hn hf hfu
      exact absurd hfu (Nat.not_lt_zero _)
    | succ fu ih =>
      intro n Sx x1 x2 x3 e_x1 e_x2 e_x3 hn hf hfu
      subst e_x1
      subst e_x2
      subst e_x3
      have evx : vw Sx 0 = vw S 0 := fr_vw hf (by decide)
      have e2 : Sx (4 * 0) 2 = S (4 * 0) 2 := congrFun evx 2
      have hbi := ckG_in hw n
      have hwx : wf (vw Sx 0) := by rw [evx]; exact hw
      refine g_iload_n (q := 7) B dX7_bestRun_6 rfl 3 rfl ?_
      refine g_aload_n (q := 8) B dX7_bestRun_7 rfl 0 rfl ?_
      refine g_get (n := 72) (ty := tyX7) (q := 11) (v := .ref (yA Y (4 * 0))) B dX7_bestRun_8 rfl rfl rfl cls5 1 (by decide) w158 rfl ?_
      refine g_callV (n := (4 * 0)) (ty := tyX2) (q := 14) (As := []) (st := [.int (iI ((n : Int)))]) B dX7_bestRun_11 rfl (c_X2_runs (l := xL X) (S := Sx) (by decide) (wf.q hwx)) eX2_runs w510 (by decide) rfl (cw_N (by decide) (Sx ((4 * 0)))) cls2 rfl rfl (Nat.le_of_ble_eq_true rfl) (g_kE ?_)
      have := runsF_in (vw Sx 0)
      refine g_eqT (st' := [.int (iI (runsF (vw S 0))), .int (iI ((n : Int)))]) (congrArg (fun z => Value.int (iI z) :: [.int (iI ((n : Int)))]) (show runsF (vw Sx 0) = runsF (vw S 0) by rw [evx])) ?_
      refine g_icmp_ge (t := 64) (q := 17) B dX7_bestRun_14 (by decide) rfl ⟨by omega, by omega⟩ ⟨by omega, by omega⟩ (fun cq14 => ?_) (fun cq14 => ?_)
      · refine g_iload_n (q := 65) B dX7_bestRun_64 rfl 1 rfl ?_
        refine g_iret B E dX7_bestRun_65 ?_
        exact ⟨by rw [show (runsF (vw S 0)).toNat = n by omega], hf⟩
      · refine g_aload_n (q := 18) B dX7_bestRun_17 rfl 0 rfl ?_
        refine g_get (n := 72) (ty := tyX7) (q := 21) (v := .ref (yA Y (4 * 0))) B dX7_bestRun_18 rfl rfl rfl cls5 1 (by decide) w158 rfl ?_
        refine g_iload_n (q := 22) B dX7_bestRun_21 rfl 3 rfl ?_
        refine g_callV (n := (4 * 0)) (ty := tyX2) (q := 25) (As := [.int (iI ((n : Int)))]) (st := []) B dX7_bestRun_22 rfl (c_X2_reasonAgainstTaking (l := xL X) (S := Sx) (by decide) hwx ((n : Int)) (by omega) (by rw [evx]; omega)) eX2_reasonAgainstTaking w675 (by decide) rfl (cw_N (by decide) (Sx ((4 * 0)))) cls2 rfl rfl (Nat.le_of_ble_eq_true rfl) (g_kE ?_)
        have := whyF_in (vw Sx 0) ((n : Int))
        have hwi := whyF_in (vw S 0) (n : Int)
        refine g_eqT (st' := [.int (iI (whyF (vw S 0) (n : Int)))]) (congrArg (fun z => Value.int (iI z) :: []) (show whyF (vw Sx 0) ((n : Int)) = whyF (vw S 0) (n : Int) by rw [evx])) ?_
        refine g_if_ne (t := 58) (q := 28) B dX7_bestRun_25 (by decide) rfl ⟨by omega, by omega⟩ (fun cq25 => ?_) (fun cq25 => ?_)
        · refine g_iinc (n := 3) (q := 61) B dX7_bestRun_58 rfl rfl (by decide) (L' := [(3, .int (iI ((n : Int) + 1))), (0, .ref (yA Y 72)), (1, .int (iI ((ckG (vw S 0) n).1))), (2, .int (iI ((ckG (vw S 0) n).2)))]) rfl ?_
          refine g_goto (q := 6) B dX7_bestRun_61 (by decide) ?_
          refine g_sub [1, 2, 3, 0] rfl ?_
          have b1 := ckG_s1 (vw S 0) n
          have b2 := ckG_s2 (vw S 0) n
          exact ih (n + 1) _ _ _ _ (by rw [b1]; split <;> omega) (by rw [b2]; split <;> omega) (by first | rfl | omega) (by first | assumption | omega) (by exact hf) (by omega)
        · refine g_aload_n (q := 29) B dX7_bestRun_28 rfl 0 rfl ?_
          refine g_iload_n (q := 30) B dX7_bestRun_29 rfl 3 rfl ?_
          refine g_aload_n (q := 31) B dX7_bestRun_30 rfl 0 rfl ?_
          refine g_get (n := 72) (ty := tyX7) (q := 34) (v := .ref (yA Y (4 * 0))) B dX7_bestRun_31 rfl rfl rfl cls5 1 (by decide) w158 rfl ?_
          refine g_get (n := (4 * 0)) (ty := tyX2) (q := 37) (v := .int (iI (Sx ((4 * 0)) 2))) B dX7_bestRun_34 rfl rfl (cw_N (by decide) (Sx ((4 * 0)))) cls2 2 (by decide) w72 rfl ?_
          refine g_callV (n := 72) (ty := tyX7) (q := 40) (As := [.int (iI ((n : Int))), .int (iI (Sx ((4 * 0)) 2))]) (st := []) B dX7_bestRun_37 rfl (c_X7_gapWith (l := xL X) (S := Sx) hwx ((n : Int)) (Sx ((4 * 0)) 2) ⟨by omega, by omega⟩ ⟨by omega, by omega⟩) eX7_gapWith w815 (by decide) rfl rfl cls5 rfl rfl (Nat.le_of_ble_eq_true rfl) (g_kV (fun Sy hSy => ?_))
          have hgp := gapF_in (wf_giveG hwx ((n : Int)) (Sx ((4 * 0)) 2))
          have hcT : 0 ≤ ckT (vw S 0) n ∧ ckT (vw S 0) n ≤ 576 := gapF_in (wf_giveG hw _ _)
          refine g_eqT (st' := [.int (iI (ckT (vw S 0) n))]) (congrArg (fun z => Value.int (iI z) :: []) (show gapF (giveG (vw Sx 0) ((n : Int)) (Sx ((4 * 0)) 2)) = ckT (vw S 0) n by rw [evx, e2]; rfl)) ?_
          refine g_istore (q := 42) B dX7_bestRun_40 rfl (by decide) (L' := [(4, .int (iI (ckT (vw S 0) n))), (0, .ref (yA Y 72)), (1, .int (iI ((ckG (vw S 0) n).1))), (2, .int (iI ((ckG (vw S 0) n).2))), (3, .int (iI ((n : Int))))]) rfl ?_
          refine g_iload_n (q := 43) B dX7_bestRun_42 rfl 2 rfl ?_
          refine g_iconst (q := 44) B dX7_bestRun_43 rfl ?_
          refine g_icmp_eq (t := 53) (q := 47) B dX7_bestRun_44 (by decide) rfl ⟨by omega, by omega⟩ ⟨by omega, by omega⟩ (fun cq44 => ?_) (fun cq44 => ?_)
          · refine g_iload (q := 55) B dX7_bestRun_53 rfl 0 rfl ?_
            refine g_istore_n (q := 56) B dX7_bestRun_55 rfl (by decide) (L' := [(2, .int (iI (ckT (vw S 0) n))), (4, .int (iI (ckT (vw S 0) n))), (0, .ref (yA Y 72)), (1, .int (iI ((ckG (vw S 0) n).1))), (3, .int (iI ((n : Int))))]) rfl ?_
            refine g_iload_n (q := 57) B dX7_bestRun_56 rfl 4 rfl ?_
            refine g_istore_n (q := 58) B dX7_bestRun_57 rfl (by decide) (L' := [(1, .int (iI ((n : Int)))), (2, .int (iI (ckT (vw S 0) n))), (4, .int (iI (ckT (vw S 0) n))), (0, .ref (yA Y 72)), (3, .int (iI ((n : Int))))]) rfl ?_
            refine g_iinc (n := 4) (q := 61) B dX7_bestRun_58 rfl rfl (by decide) (L' := [(3, .int (iI ((n : Int) + 1))), (1, .int (iI ((n : Int)))), (2, .int (iI (ckT (vw S 0) n))), (4, .int (iI (ckT (vw S 0) n))), (0, .ref (yA Y 72))]) rfl ?_
            refine g_goto (q := 6) B dX7_bestRun_61 (by decide) ?_
            refine g_sub [4, 1, 2, 0] rfl ?_
            have b1 := ckG_s1 (vw S 0) n
            have b2 := ckG_s2 (vw S 0) n
            exact ih (n + 1) _ _ _ _ (by rw [b1]; split <;> omega) (by rw [b2]; split <;> omega) (by first | rfl | omega) (by first | assumption | omega) (by exact hf.tr hSy) (by omega)
          · refine g_iload (q := 49) B dX7_bestRun_47 rfl 0 rfl ?_
            refine g_iload_n (q := 50) B dX7_bestRun_49 rfl 3 rfl ?_
            refine g_icmp_ge (t := 58) (q := 53) B dX7_bestRun_50 (by decide) rfl ⟨by omega, by omega⟩ ⟨by omega, by omega⟩ (fun cq50 => ?_) (fun cq50 => ?_)
            · refine g_iinc (n := 4) (q := 61) B dX7_bestRun_58 rfl rfl (by decide) (L' := [(3, .int (iI ((n : Int) + 1))), (4, .int (iI (ckT (vw S 0) n))), (0, .ref (yA Y 72)), (1, .int (iI ((ckG (vw S 0) n).1))), (2, .int (iI ((ckG (vw S 0) n).2)))]) rfl ?_
              refine g_goto (q := 6) B dX7_bestRun_61 (by decide) ?_
              refine g_sub [2, 3, 4, 0] rfl ?_
              have b1 := ckG_s1 (vw S 0) n
              have b2 := ckG_s2 (vw S 0) n
              exact ih (n + 1) _ _ _ _ (by rw [b1]; split <;> omega) (by rw [b2]; split <;> omega) (by first | rfl | omega) (by first | assumption | omega) (by exact hf.tr hSy) (by omega)
            · refine g_iload (q := 55) B dX7_bestRun_53 rfl 0 rfl ?_
              refine g_istore_n (q := 56) B dX7_bestRun_55 rfl (by decide) (L' := [(2, .int (iI (ckT (vw S 0) n))), (4, .int (iI (ckT (vw S 0) n))), (0, .ref (yA Y 72)), (1, .int (iI ((ckG (vw S 0) n).1))), (3, .int (iI ((n : Int))))]) rfl ?_
              refine g_iload_n (q := 57) B dX7_bestRun_56 rfl 4 rfl ?_
              refine g_istore_n (q := 58) B dX7_bestRun_57 rfl (by decide) (L' := [(1, .int (iI ((n : Int)))), (2, .int (iI (ckT (vw S 0) n))), (4, .int (iI (ckT (vw S 0) n))), (0, .ref (yA Y 72)), (3, .int (iI ((n : Int))))]) rfl ?_
              refine g_iinc (n := 4) (q := 61) B dX7_bestRun_58 rfl rfl (by decide) (L' := [(3, .int (iI ((n : Int) + 1))), (1, .int (iI ((n : Int)))), (2, .int (iI (ckT (vw S 0) n))), (4, .int (iI (ckT (vw S 0) n))), (0, .ref (yA Y 72))]) rfl ?_
              refine g_goto (q := 6) B dX7_bestRun_61 (by decide) ?_
              refine g_sub [4, 1, 2, 0] rfl ?_
              have b1 := ckG_s1 (vw S 0) n
              have b2 := ckG_s2 (vw S 0) n
              exact ih (n + 1) _ _ _ _ (by rw [b1]; split <;> omega) (by rw [b2]; split <;> omega) (by first | rfl | omega) (by first | assumption | omega) (by exact hf.tr hSy) (by omega)
  refine g_iconst (q := 1) B dX7_bestRun_0 rfl ?_
  refine g_istore_n (q := 2) B dX7_bestRun_1 rfl (by decide) (L' := [(1, .int (iI (-1))), (0, .ref (yA Y 72))]) rfl ?_
  refine g_iconst (q := 3) B dX7_bestRun_2 rfl ?_
  refine g_istore_n (q := 4) B dX7_bestRun_3 rfl (by decide) (L' := [(2, .int (iI 0)), (1, .int (iI (-1))), (0, .ref (yA Y 72))]) rfl ?_
  refine g_iconst (q := 5) B dX7_bestRun_4 rfl ?_
  refine g_istore_n (q := 6) B dX7_bestRun_5 rfl (by decide) (L' := [(3, .int (iI 0)), (2, .int (iI 0)), (1, .int (iI (-1))), (0, .ref (yA Y 72))]) rfl ?_
  refine g_sub [3, 2, 1, 0] rfl ?_
  exact lp6 _ 0 _ _ _ _ (by first | rfl | omega) (by first | rfl | omega) (by first | rfl | omega) (by first | assumption | omega) (by exact fr.rf) (Nat.lt_succ_self _)
set_option maxHeartbeats 4000000 in
theorem c_X7_runScript {Y : gY} {l : Launch} {S : SS} (hst : l.stackTraces = false) (hw : wf (vw S 0)) (h780 : S 78 0 = 0) (n s : Int) (hn : rI n) (hs : rL s) : gV Y l mX7_runScript S [.ref (yA Y 72), .int (iI n), .long (lI s)] (xO (cd_run n s) (rcA s n n.toNat (vw S 0)) (fun S' => f1t S S' ∧ S' 78 0 = 0)) (xE2 (cd_run n s) [eA] (fun S' => S' = S)) := by
  refine gV_of hst (by decide) (Nat.le_of_ble_eq_true rfl) ?_
  intro X hXl B V
  obtain ⟨hn0, hn1⟩ := hn
  obtain ⟨hs0, hs1⟩ := hs
  show gW Y X S 0 [(0, .ref (yA Y 72)), (1, .int (iI n)), (2, .long (lI s))] []
  have lp62 : ∀ (fu : Nat) (j : Nat) (Sx : SS) (x4 : Int) , x4 = (n - (j : Int)) → (j : Int) ≤ n → 1 ≤ n ∧ n ≤ 3 → 0 ≤ s → cd_run n s = 0 → rcA s n j (vw Sx 1) = rcA s n n.toNat (vw S 0) → f1t S Sx → Sx 78 0 = 0 → wf (vw Sx 1) → j + 1 < fu → gW Y X Sx 62 [(0, .ref (yA Y 72)), (1, .int (iI n)), (2, .long (lI s)), (4, .int (iI x4))] [] := by
    intro fu
    induction fu with
    | zero =>
      intro j Sx x4 e_x4 hj hn3 hsn hcd hA hf h78 hwx hfu
      exact absurd hfu (Nat.not_lt_zero _)
    | succ fu ih =>
      intro j Sx x4 e_x4 hj hn3 hsn hcd hA hf h78 hwx hfu
      subst e_x4
      have hpj := pw5_in j (by omega)
      have hpi := pw5_in (j - 1) (by omega)
      have hq0 : 0 ≤ s / pw5 (j - 1) := Int.ediv_nonneg hsn (by omega)
      have hq1 : s / pw5 (j - 1) ≤ s := Int.ediv_le_self _ hsn
      have hg : 0 ≤ grp s (j - 1) ∧ grp s (j - 1) < 100000 := by unfold grp; omega
      have hcb := cmB_in (grp s (j - 1) / 10000) (grp s (j - 1) % 10000) (vw Sx 1)
      refine g_iload (q := 64) B dX7_runScript_62 rfl 3 rfl ?_
      refine g_iload_n (q := 65) B dX7_runScript_64 rfl 1 rfl ?_
      refine g_icmp_ge (t := 110) (q := 68) B dX7_runScript_65 (by decide) rfl ⟨by omega, by omega⟩ ⟨by omega, by omega⟩ (fun cq65 => ?_) (fun cq65 => ?_)
      · refine g_iconst (q := 111) B dX7_runScript_110 rfl ?_
        refine gx_iret B V dX7_runScript_111 ?_
        have e0 : cd_run n s = 0 := by first | exact hcd | (unfold cd_run; (repeat' split) <;> omega)
        have ev : rcA s n n.toNat (vw S 0) = -1 := by rw [← hA, show j = 0 by omega]; rfl
        exact ⟨e0, by rw [ev], ⟨hf, h78⟩⟩
      · refine g_lload_n (q := 69) B dX7_runScript_68 rfl 2 rfl ?_
        refine g_iload_n (q := 70) B dX7_runScript_69 rfl 1 rfl ?_
        refine g_iconst (q := 71) B dX7_runScript_70 rfl ?_
        refine g_isub (q := 72) B dX7_runScript_71 rfl ?_
        refine g_iload (q := 74) B dX7_runScript_72 rfl 3 rfl ?_
        refine g_isub (q := 75) B dX7_runScript_74 rfl ?_
        refine g_eqT (st' := [.int (iI (((j - 1 : Nat) : Int))), .long (lI s)]) (congrArg (fun z => Value.int (iI z) :: [.long (lI s)]) (show (n - 1) - (n - (j : Int)) = ((j - 1 : Nat) : Int) by omega)) ?_
        refine g_callS (q := 78) (As := [.long (lI s), .int (iI (((j - 1 : Nat) : Int)))]) (st := []) B dX7_runScript_75 rfl (c_X3_groupsAbove (l := xL X) (S := Sx) s ⟨hsn, by omega⟩ (((j - 1 : Nat) : Int)) (by omega)) eX3_groupsAbove w860 (by decide) rfl rfl (Nat.le_of_ble_eq_true rfl) (g_kE ?_)
        refine g_eqT (st' := [.long (lI (s / pw5 (j - 1)))]) (congrArg (fun z => Value.long (lI z) :: []) (show s / pw5 (((j - 1 : Nat) : Int)).toNat = s / pw5 (j - 1) by rfl)) ?_
        refine g_ldc2 (z := 100000) (q := 81) B dX7_runScript_78 rfl w865 (by decide) ?_
        refine g_lrem (q := 82) B dX7_runScript_81 rfl (by omega) (by omega) (by omega) (by omega) ?_
        refine g_eqT (st' := [.long (lI (grp s (j - 1)))]) (congrArg (fun z => Value.long (lI z) :: []) (show (s / pw5 (j - 1)) % 100000 = grp s (j - 1) by rfl)) ?_
        refine g_l2i (q := 83) B dX7_runScript_82 rfl ?_
        refine g_istore (q := 85) B dX7_runScript_83 rfl (by decide) (L' := [(5, .int (iI (grp s (j - 1)))), (0, .ref (yA Y 72)), (1, .int (iI n)), (2, .long (lI s)), (4, .int (iI (n - (j : Int))))]) rfl ?_
        refine g_iload (q := 87) B dX7_runScript_85 rfl 0 rfl ?_
        refine g_aload_n (q := 88) B dX7_runScript_87 rfl 1 rfl ?_
        refine g_get (n := 72) (ty := tyX7) (q := 91) (v := .ref (yA Y (4 * 1))) B dX7_runScript_88 rfl rfl rfl cls5 2 (by decide) w159 rfl ?_
        refine g_aload_n (q := 92) B dX7_runScript_91 rfl 1 rfl ?_
        refine g_get (n := 72) (ty := tyX7) (q := 95) (v := .ref (yA Y 77)) B dX7_runScript_92 rfl rfl rfl cls5 4 (by decide) w161 rfl ?_
        refine g_callS (q := 98) (As := [.int (iI (grp s (j - 1))), .ref (yA Y (4 * 1)), .ref (yA Y 77)]) (st := []) B dX7_runScript_95 rfl (c_X3_succeeds (l := xL X) (S := Sx) (grp s (j - 1)) (by omega) (by decide) hwx h78) eX3_succeeds w866 (by decide) rfl rfl (Nat.le_of_ble_eq_true rfl) (g_kV (fun Sy hSy => ?_))
        obtain ⟨hvSy, hfSy, hzSy⟩ := hSy
        have hcb := cmB_in (grp s (j - 1) / 10000) (grp s (j - 1) % 10000) (vw Sx 1)
        refine g_if_ne (t := 104) (q := 101) B dX7_runScript_98 (by decide) rfl ⟨by omega, by omega⟩ (fun cq98 => ?_) (fun cq98 => ?_)
        · refine g_iinc (n := 4) (q := 107) B dX7_runScript_104 rfl rfl (by decide) (L' := [(4, .int (iI (n - (j : Int) + 1))), (5, .int (iI (grp s (j - 1)))), (0, .ref (yA Y 72)), (1, .int (iI n)), (2, .long (lI s))]) rfl ?_
          refine g_goto (q := 62) B dX7_runScript_107 (by decide) ?_
          refine g_sub [2, 3, 4, 0] rfl ?_
          exact ih (j - 1) _ _ (by first | rfl | omega) (by first | assumption | omega) (by first | assumption | omega) (by first | assumption | omega) (by first | assumption | omega) (by rw [hvSy, ← hA, rcA_s (j := j) (by omega), if_neg (show ¬ cmB (grp s (j - 1) / 10000) (grp s (j - 1) % 10000) (vw Sx 1) = 0 from cq98)]) (by exact f1t_s hf hfSy) (by exact hzSy) (by rw [hvSy]; exact wf_ccG hwx _ _) (by omega)
        · refine g_iload (q := 103) B dX7_runScript_101 rfl 4 rfl ?_
          refine gx_iret B V dX7_runScript_103 ?_
          have e0 : cd_run n s = 0 := by first | exact hcd | (unfold cd_run; (repeat' split) <;> omega)
          have ev : rcA s n n.toNat (vw S 0) = n - (j : Int) := by rw [← hA, rcA_s (by omega), if_pos (show cmB (grp s (j - 1) / 10000) (grp s (j - 1) % 10000) (vw Sx 1) = 0 from cq98)]
          exact ⟨e0, by rw [ev], ⟨f1t_s hf hfSy, hzSy⟩⟩
  refine g_iload_n (q := 1) B dX7_runScript_0 rfl 1 rfl ?_
  refine g_iconst (q := 2) B dX7_runScript_1 rfl ?_
  refine g_icmp_lt (t := 10) (q := 5) B dX7_runScript_2 (by decide) rfl ⟨by omega, by omega⟩ ⟨by omega, by omega⟩ (fun cq2 => ?_) (fun cq2 => ?_)
  · refine gx_throwW (cls := "java/lang/IllegalArgumentException") (text := "n is not 1 to 3") B V gEx_A (by decide) (by decide) dX7_runScript_10 dX7_runScript_13 dX7_runScript_14 dX7_runScript_17 dX7_runScript_20 ?_
    exact ⟨0, (show cd_run n s = ((0 : Nat) : Int) + 1 by first | exact hcd | (unfold cd_run; (repeat' split) <;> omega)), rfl, rfl⟩
  · refine g_iload_n (q := 6) B dX7_runScript_5 rfl 1 rfl ?_
    refine g_iconst (q := 7) B dX7_runScript_6 rfl ?_
    refine g_icmp_le (t := 21) (q := 10) B dX7_runScript_7 (by decide) rfl ⟨by omega, by omega⟩ ⟨by omega, by omega⟩ (fun cq7 => ?_) (fun cq7 => ?_)
    · refine g_lload_n (q := 22) B dX7_runScript_21 rfl 2 rfl ?_
      refine g_lconst (z := 0) (q := 23) B dX7_runScript_22 rfl rfl ?_
      refine g_lcmp_lt (t := 37) (q := 27) B dX7_runScript_23 dX7_runScript_24 (by decide) rfl ⟨by omega, by omega⟩ ⟨by omega, by omega⟩ (fun cq23 => ?_) (fun cq23 => ?_)
      · refine gx_throwW (cls := "java/lang/IllegalArgumentException") (text := "script is negative or too long") B V gEx_A (by decide) (by decide) dX7_runScript_37 dX7_runScript_40 dX7_runScript_41 dX7_runScript_44 dX7_runScript_47 ?_
        exact ⟨0, (show cd_run n s = ((0 : Nat) : Int) + 1 by first | exact hcd | (unfold cd_run; (repeat' split) <;> omega)), rfl, rfl⟩
      · refine g_lload_n (q := 28) B dX7_runScript_27 rfl 2 rfl ?_
        refine g_iload_n (q := 29) B dX7_runScript_28 rfl 1 rfl ?_
        refine g_callS (q := 32) (As := [.long (lI s), .int (iI n)]) (st := []) B dX7_runScript_29 rfl (c_X3_groupsAbove (l := xL X) (S := S) s (by omega) n (by omega)) eX3_groupsAbove w860 (by decide) rfl rfl (Nat.le_of_ble_eq_true rfl) (g_kE ?_)
        have hq2 : 0 ≤ s / pw5 n.toNat := Int.ediv_nonneg (by omega) (by have := pw5_in n.toNat (by omega); omega)
        have hq3 : s / pw5 n.toNat ≤ s := Int.ediv_le_self _ (by omega)
        have hdq := pw5_0 (s := s) (k := n.toNat) (by omega) (by omega)
        refine g_lconst (z := 0) (q := 33) B dX7_runScript_32 rfl rfl ?_
        refine g_lcmp_eq (t := 48) (q := 37) B dX7_runScript_33 dX7_runScript_34 (by decide) rfl ⟨by omega, by omega⟩ ⟨by omega, by omega⟩ (fun cq33 => ?_) (fun cq33 => ?_)
        · refine g_aload_n (q := 49) B dX7_runScript_48 rfl 0 rfl ?_
          refine g_get (n := 72) (ty := tyX7) (q := 52) (v := .ref (yA Y (4 * 1))) B dX7_runScript_49 rfl rfl rfl cls5 2 (by decide) w159 rfl ?_
          refine g_aload_n (q := 53) B dX7_runScript_52 rfl 0 rfl ?_
          refine g_get (n := 72) (ty := tyX7) (q := 56) (v := .ref (yA Y (4 * 0))) B dX7_runScript_53 rfl rfl rfl cls5 1 (by decide) w158 rfl ?_
          refine g_callV (n := (4 * 1)) (ty := tyX2) (q := 59) (As := [.ref (yA Y (4 * 0))]) (st := []) B dX7_runScript_56 rfl (c_X2_becomeLike (l := xL X) (S := S) (by decide) (by decide) (by decide)) eX2_becomeLike w819 (by decide) rfl (cw_N (by decide) (S ((4 * 1)))) cls2 rfl rfl (Nat.le_of_ble_eq_true rfl) (g_k0 (fun Sy hSy => ?_))
          obtain ⟨hvSy, hfSy⟩ := hSy
          refine g_iconst (q := 60) B dX7_runScript_59 rfl ?_
          refine g_istore (q := 62) B dX7_runScript_60 rfl (by decide) (L' := [(4, .int (iI 0)), (0, .ref (yA Y 72)), (1, .int (iI n)), (2, .long (lI s))]) rfl ?_
          refine g_sub [1, 2, 3, 0] rfl ?_
          have hcd0 : cd_run n s = 0 := by
            unfold cd_run
            rw [if_pos]
            omega
          exact lp62 _ n.toNat _ _ (by first | rfl | omega) (by first | assumption | omega) (by first | assumption | omega) (by first | assumption | omega) (by exact hcd0) (by rw [hvSy]) (by exact fr_1t hfSy) (by exact (congrFun (hfSy 78 (by decide)) 0).trans h780) (by rw [hvSy]; exact hw) (Nat.lt_succ_self _)
        · refine gx_throwW (cls := "java/lang/IllegalArgumentException") (text := "script is negative or too long") B V gEx_A (by decide) (by decide) dX7_runScript_37 dX7_runScript_40 dX7_runScript_41 dX7_runScript_44 dX7_runScript_47 ?_
          exact ⟨0, (show cd_run n s = ((0 : Nat) : Int) + 1 by first | exact hcd | (unfold cd_run; (repeat' split) <;> omega)), rfl, rfl⟩
    · refine gx_throwW (cls := "java/lang/IllegalArgumentException") (text := "n is not 1 to 3") B V gEx_A (by decide) (by decide) dX7_runScript_10 dX7_runScript_13 dX7_runScript_14 dX7_runScript_17 dX7_runScript_20 ?_
      exact ⟨0, (show cd_run n s = ((0 : Nat) : Int) + 1 by first | exact hcd | (unfold cd_run; (repeat' split) <;> omega)), rfl, rfl⟩
set_option maxHeartbeats 4000000 in
theorem c_X7_simulate {Y : gY} {l : Launch} {S : SS} (hst : l.stackTraces = false) (hw : wf (vw S 0)) (z m : Int) (hz : rL z) (hm : rI m) : gV Y l mX7_simulate S [.ref (yA Y 72), .long (lI z), .int (iI m)] (xO (cd_sim m) (laV (plT (vw S 0) z m.toNat)) (fun S' => fr S S' 1)) (xE2 (cd_sim m) [eA] (fun S' => S' = S)) := by
  refine gV_of hst (by decide) (Nat.le_of_ble_eq_true rfl) ?_
  intro X hXl B V
  obtain ⟨hm0, hm1⟩ := hm
  show gW Y X S 0 [(0, .ref (yA Y 72)), (1, .long (lI z)), (3, .int (iI m))] []
  refine g_iload_n (q := 1) B dX7_simulate_0 rfl 2 rfl ?_
  refine g_iconst (q := 2) B dX7_simulate_1 rfl ?_
  refine g_icmp_lt (t := 11) (q := 5) B dX7_simulate_2 (by decide) rfl ⟨by omega, by omega⟩ ⟨by omega, by omega⟩ (fun cq2 => ?_) (fun cq2 => ?_)
  · refine gx_throwW (cls := "java/lang/IllegalArgumentException") (text := "m is not 1 to 60") B V gEx_A (by decide) (by decide) dX7_simulate_11 dX7_simulate_14 dX7_simulate_15 dX7_simulate_18 dX7_simulate_21 ?_
    exact ⟨0, (show cd_sim m = ((0 : Nat) : Int) + 1 by unfold cd_sim; (repeat' split) <;> omega), rfl, rfl⟩
  · refine g_iload_n (q := 6) B dX7_simulate_5 rfl 2 rfl ?_
    refine g_bipush (q := 8) B dX7_simulate_6 rfl (by decide) ?_
    refine g_icmp_le (t := 22) (q := 11) B dX7_simulate_8 (by decide) rfl ⟨by omega, by omega⟩ ⟨by omega, by omega⟩ (fun cq8 => ?_) (fun cq8 => ?_)
    · refine g_aload_n (q := 23) B dX7_simulate_22 rfl 0 rfl ?_
      refine g_get (n := 72) (ty := tyX7) (q := 26) (v := .ref (yA Y (4 * 1))) B dX7_simulate_23 rfl rfl rfl cls5 2 (by decide) w159 rfl ?_
      refine g_aload_n (q := 27) B dX7_simulate_26 rfl 0 rfl ?_
      refine g_get (n := 72) (ty := tyX7) (q := 30) (v := .ref (yA Y (4 * 0))) B dX7_simulate_27 rfl rfl rfl cls5 1 (by decide) w158 rfl ?_
      refine g_callV (n := (4 * 1)) (ty := tyX2) (q := 33) (As := [.ref (yA Y (4 * 0))]) (st := []) B dX7_simulate_30 rfl (c_X2_becomeLike (l := xL X) (S := S) (by decide) (by decide) (by decide)) eX2_becomeLike w819 (by decide) rfl (cw_N (by decide) (S ((4 * 1)))) cls2 rfl rfl (Nat.le_of_ble_eq_true rfl) (g_k0 (fun Sy hSy => ?_))
      obtain ⟨hvSy, hfSy⟩ := hSy
      have hwy : wf (vw Sy 1) := by rw [hvSy]; exact hw
      refine g_lload_n (q := 34) B dX7_simulate_33 rfl 1 rfl ?_
      refine g_iload_n (q := 35) B dX7_simulate_34 rfl 2 rfl ?_
      refine g_aload_n (q := 36) B dX7_simulate_35 rfl 0 rfl ?_
      refine g_get (n := 72) (ty := tyX7) (q := 39) (v := .ref (yA Y (4 * 1))) B dX7_simulate_36 rfl rfl rfl cls5 2 (by decide) w159 rfl ?_
      refine g_callS (q := 42) (As := [.long (lI z), .int (iI m), .ref (yA Y (4 * 1))]) (st := []) B dX7_simulate_39 rfl (c_X4_play (l := xL X) (S := Sy) z hz m (by omega) (by decide) hwy) eX4_play w895 (by decide) rfl rfl (Nat.le_of_ble_eq_true rfl) (g_k0 (fun Sz hSz => ?_))
      obtain ⟨hvSz, hfSz⟩ := hSz
      have hez : vw Sz 1 = plT (vw S 0) z m.toNat := by rw [hvSz, hvSy]
      have hwz : wf (vw Sz 1) := by rw [hez]; exact wf_plT hw z _
      have hjz := wfS hwz
      refine g_sipush (q := 45) B dX7_simulate_42 rfl (by decide) ?_
      refine g_aload_n (q := 46) B dX7_simulate_45 rfl 0 rfl ?_
      refine g_get (n := 72) (ty := tyX7) (q := 49) (v := .ref (yA Y (4 * 1))) B dX7_simulate_46 rfl rfl rfl cls5 2 (by decide) w159 rfl ?_
      refine g_get (n := (4 * 1)) (ty := tyX2) (q := 52) (v := .int (iI (Sz ((4 * 1)) 0))) B dX7_simulate_49 rfl rfl (cw_N (by decide) (Sz ((4 * 1)))) cls2 0 (by decide) w67 rfl ?_
      refine g_imul (q := 53) B dX7_simulate_52 rfl ?_
      refine g_bipush (q := 55) B dX7_simulate_53 rfl (by decide) ?_
      refine g_aload_n (q := 56) B dX7_simulate_55 rfl 0 rfl ?_
      refine g_get (n := 72) (ty := tyX7) (q := 59) (v := .ref (yA Y (4 * 1))) B dX7_simulate_56 rfl rfl rfl cls5 2 (by decide) w159 rfl ?_
      refine g_callV (n := (4 * 1)) (ty := tyX2) (q := 62) (As := []) (st := [.int (iI 100), .int (iI (10000 * (Sz ((4 * 1)) 0)))]) B dX7_simulate_59 rfl (c_X2_runs (l := xL X) (S := Sz) (by decide) (wf.q hwz)) eX2_runs w510 (by decide) rfl (cw_N (by decide) (Sz ((4 * 1)))) cls2 rfl rfl (Nat.le_of_ble_eq_true rfl) (g_kE ?_)
      have := runsF_in (vw Sz 1)
      refine g_imul (q := 63) B dX7_simulate_62 rfl ?_
      refine g_iadd (q := 64) B dX7_simulate_63 rfl ?_
      refine g_aload_n (q := 65) B dX7_simulate_64 rfl 0 rfl ?_
      refine g_get (n := 72) (ty := tyX7) (q := 68) (v := .ref (yA Y (4 * 1))) B dX7_simulate_65 rfl rfl rfl cls5 2 (by decide) w159 rfl ?_
      refine g_callV (n := (4 * 1)) (ty := tyX2) (q := 71) (As := []) (st := [.int (iI ((10000 * (Sz ((4 * 1)) 0)) + (100 * (runsF (vw Sz 1)))))]) B dX7_simulate_68 rfl (c_X2_gap (l := xL X) (S := Sz) (by decide) hwz) eX2_gap w511 (by decide) rfl (cw_N (by decide) (Sz ((4 * 1)))) cls2 rfl rfl (Nat.le_of_ble_eq_true rfl) (g_kE ?_)
      have := gapF_in hwz
      refine g_bipush (q := 73) B dX7_simulate_71 rfl (by decide) ?_
      refine g_min (q := 76) B dX7_simulate_73 rfl w915 wst_min w32 wco_min (by decide) (Nat.le_of_ble_eq_true rfl) ⟨by omega, by omega⟩ ⟨by omega, by omega⟩ ?_
      refine g_iadd (q := 77) B dX7_simulate_76 rfl ?_
      refine gx_iret B V dX7_simulate_77 ?_
      have e0 : cd_sim m = 0 := by unfold cd_sim; (repeat' split) <;> omega
      have ev : laV (plT (vw S 0) z m.toNat) = ((10000 * (Sz ((4 * 1)) 0)) + (100 * (runsF (vw Sz 1)))) + (if 99 < gapF (vw Sz 1) then 99 else gapF (vw Sz 1)) := by rw [← hez]; unfold laV; rw [show vw Sz 1 0 = Sz (4 * 1) 0 from rfl]
      exact ⟨e0, by rw [ev], (hfSy.tr hfSz)⟩
    · refine gx_throwW (cls := "java/lang/IllegalArgumentException") (text := "m is not 1 to 60") B V gEx_A (by decide) (by decide) dX7_simulate_11 dX7_simulate_14 dX7_simulate_15 dX7_simulate_18 dX7_simulate_21 ?_
      exact ⟨0, (show cd_sim m = ((0 : Nat) : Int) + 1 by unfold cd_sim; (repeat' split) <;> omega), rfl, rfl⟩
