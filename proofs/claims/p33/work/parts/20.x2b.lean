set_option maxHeartbeats 4000000 in
theorem c_X2_cutCount {Y : gY} {l : Launch} {S : SS} {i : Nat} (hi : i < 18) (hq : wq (vw S i)) : gM Y l mX2_cutCount S [.ref (yA Y (4 * i))] (pV (.int (iI ((cn (S (4 * i) 5).toNat 16 : Nat)))) (fun S' => S' = S)) := by
  refine gM_of (by decide) (Nat.le_of_ble_eq_true rfl) ?_
  intro X hXl B E
  obtain ⟨⟨hn0, hn16⟩, hc0, hc1⟩ : (0 ≤ S (4 * i) 0 ∧ S (4 * i) 0 ≤ 16) ∧ 0 ≤ S (4 * i) 5 ∧ S (4 * i) 5 < 65536 := id hq
  show gW Y X S 0 [(0, .ref (yA Y (4 * i)))] []
  refine g_aload_n (q := 1) B dX2_cutCount_0 rfl 0 rfl ?_
  refine g_get (n := (4 * i)) (ty := tyX2) (q := 4) (v := .int (iI (S ((4 * i)) 5))) B dX2_cutCount_1 rfl rfl (cw_N hi (S ((4 * i)))) cls2 5 (by decide) w77 rfl ?_
  refine g_eqT (st' := [.int (iI ((((S (4 * i) 5).toNat : Nat) : Int)))]) (congrArg (fun z => Value.int (iI z) :: []) (show S ((4 * i)) 5 = (((S (4 * i) 5).toNat : Nat) : Int) by omega)) ?_
  refine g_callS (q := 7) (As := [.int (iI ((((S (4 * i) 5).toNat : Nat) : Int)))]) (st := []) B dX2_cutCount_4 rfl (c_J6_bitCount_0f7a4 (l := xL X) (S := S) ((S (4 * i) 5).toNat) (by omega)) eJ6_bitCount_0f7a4 w427 (by decide) rfl rfl (Nat.le_of_ble_eq_true rfl) (g_kE ?_)
  refine g_iret B E dX2_cutCount_7 ?_
  exact ⟨rfl, rfl⟩
set_option maxHeartbeats 4000000 in
theorem c_X2_runs {Y : gY} {l : Launch} {S : SS} {i : Nat} (hi : i < 18) (hq : wq (vw S i)) : gM Y l mX2_runs S [.ref (yA Y (4 * i))] (pV (.int (iI (runsF (vw S i)))) (fun S' => S' = S)) := by
  refine gM_of (by decide) (Nat.le_of_ble_eq_true rfl) ?_
  intro X hXl B E
  obtain ⟨⟨hn0, hn16⟩, hc0, hc1⟩ : (0 ≤ S (4 * i) 0 ∧ S (4 * i) 0 ≤ 16) ∧ 0 ≤ S (4 * i) 5 ∧ S (4 * i) 5 < 65536 := id hq
  show gW Y X S 0 [(0, .ref (yA Y (4 * i)))] []
  refine g_aload_n (q := 1) B dX2_runs_0 rfl 0 rfl ?_
  refine g_get (n := (4 * i)) (ty := tyX2) (q := 4) (v := .int (iI (S ((4 * i)) 0))) B dX2_runs_1 rfl rfl (cw_N hi (S ((4 * i)))) cls2 0 (by decide) w65 rfl ?_
  refine g_if_ne (t := 11) (q := 7) B dX2_runs_4 (by decide) rfl ⟨by omega, by omega⟩ (fun cq4 => ?_) (fun cq4 => ?_)
  · refine g_aload_n (q := 12) B dX2_runs_11 rfl 0 rfl ?_
    refine g_get (n := (4 * i)) (ty := tyX2) (q := 15) (v := .int (iI (S ((4 * i)) 5))) B dX2_runs_12 rfl rfl (cw_N hi (S ((4 * i)))) cls2 5 (by decide) w77 rfl ?_
    refine g_eqT (st' := [.int (iI ((((S (4 * i) 5).toNat : Nat) : Int)))]) (congrArg (fun z => Value.int (iI z) :: []) (show S ((4 * i)) 5 = (((S (4 * i) 5).toNat : Nat) : Int) by omega)) ?_
    refine g_callS (q := 18) (As := [.int (iI ((((S (4 * i) 5).toNat : Nat) : Int)))]) (st := []) B dX2_runs_15 rfl (c_J6_bitCount_0f7a4 (l := xL X) (S := S) ((S (4 * i) 5).toNat) (by omega)) eJ6_bitCount_0f7a4 w427 (by decide) rfl rfl (Nat.le_of_ble_eq_true rfl) (g_kE ?_)
    refine g_iconst (q := 19) B dX2_runs_18 rfl ?_
    refine g_iadd (q := 20) B dX2_runs_19 rfl ?_
    refine g_iret B E dX2_runs_20 ?_
    exact ⟨by rw [show runsF (vw S i) = _ from if_neg cq4]; rfl, rfl⟩
  · refine g_iconst (q := 8) B dX2_runs_7 rfl ?_
    refine g_goto (q := 20) B dX2_runs_8 (by decide) ?_
    refine g_iret B E dX2_runs_20 ?_
    exact ⟨by rw [show runsF (vw S i) = 0 from if_pos cq4], rfl⟩
set_option maxHeartbeats 4000000 in
theorem c_X2_hasRun {Y : gY} {l : Launch} {S : SS} {i : Nat} (hi : i < 18) (hq : wq (vw S i)) (r : Int) (hr : rI r) : gM Y l mX2_hasRun S [.ref (yA Y (4 * i)), .int (iI r)] (pV (.int (bI (0 ≤ r ∧ r < runsF (vw S i)))) (fun S' => S' = S)) := by
  refine gM_of (by decide) (Nat.le_of_ble_eq_true rfl) ?_
  intro X hXl B E
  obtain ⟨⟨hn0, hn16⟩, hc0, hc1⟩ : (0 ≤ S (4 * i) 0 ∧ S (4 * i) 0 ≤ 16) ∧ 0 ≤ S (4 * i) 5 ∧ S (4 * i) 5 < 65536 := id hq
  obtain ⟨hr0, hr1⟩ := hr
  show gW Y X S 0 [(0, .ref (yA Y (4 * i))), (1, .int (iI r))] []
  refine g_iload_n (q := 1) B dX2_hasRun_0 rfl 1 rfl ?_
  refine g_if_lt (t := 16) (q := 4) B dX2_hasRun_1 (by decide) rfl ⟨by omega, by omega⟩ (fun cq1 => ?_) (fun cq1 => ?_)
  · refine g_iconst (q := 17) B dX2_hasRun_16 rfl ?_
    refine g_zret B E dX2_hasRun_17 rfl (by decide) ?_
    exact ⟨zf (by omega), rfl⟩
  · refine g_iload_n (q := 5) B dX2_hasRun_4 rfl 1 rfl ?_
    refine g_aload_n (q := 6) B dX2_hasRun_5 rfl 0 rfl ?_
    refine g_callV (n := (4 * i)) (ty := tyX2) (q := 9) (As := []) (st := [.int (iI r)]) B dX2_hasRun_6 rfl (c_X2_runs (l := xL X) (S := S) hi hq) eX2_runs w445 (by decide) rfl (cw_N hi (S ((4 * i)))) cls2 rfl rfl (Nat.le_of_ble_eq_true rfl) (g_kE ?_)
    have := runsF_in (vw S i)
    refine g_icmp_ge (t := 16) (q := 12) B dX2_hasRun_9 (by decide) rfl ⟨by omega, by omega⟩ ⟨by omega, by omega⟩ (fun cq9 => ?_) (fun cq9 => ?_)
    · refine g_iconst (q := 17) B dX2_hasRun_16 rfl ?_
      refine g_zret B E dX2_hasRun_17 rfl (by decide) ?_
      exact ⟨zf (by omega), rfl⟩
    · refine g_iconst (q := 13) B dX2_hasRun_12 rfl ?_
      refine g_goto (q := 17) B dX2_hasRun_13 (by decide) ?_
      refine g_zret B E dX2_hasRun_17 rfl (by decide) ?_
      exact ⟨zt (by omega), rfl⟩
set_option maxHeartbeats 4000000 in
theorem c_X2_runAt {Y : gY} {l : Launch} {S : SS} {i : Nat} (hi : i < 18) (hc0 : 0 ≤ S (4 * i) 5) (hc1 : S (4 * i) 5 < 65536) (p : Int) (h0 : 0 ≤ p) (h1 : p < 16) : gM Y l mX2_runAt S [.ref (yA Y (4 * i)), .int (iI p)] (pV (.int (iI (runF (vw S i) p))) (fun S' => S' = S)) := by
  refine gM_of (by decide) (Nat.le_of_ble_eq_true rfl) ?_
  intro X hXl B E
  have hp2 := pow2_lt h1
  have hmm := Nat.mod_le (S (4 * i) 5).toNat (2 ^ (p.toNat + 1))
  show gW Y X S 0 [(0, .ref (yA Y (4 * i))), (1, .int (iI p))] []
  refine g_aload_n (q := 1) B dX2_runAt_0 rfl 0 rfl ?_
  refine g_get (n := (4 * i)) (ty := tyX2) (q := 4) (v := .int (iI (S ((4 * i)) 5))) B dX2_runAt_1 rfl rfl (cw_N hi (S ((4 * i)))) cls2 5 (by decide) w77 rfl ?_
  refine g_iconst (q := 5) B dX2_runAt_4 rfl ?_
  refine g_iload_n (q := 6) B dX2_runAt_5 rfl 1 rfl ?_
  refine g_ishl (v := (iI (2 * 2 ^ p.toNat))) (q := 7) B dX2_runAt_6 rfl (iI_shl (by omega) (by omega) (by omega) (by omega)) ?_
  refine g_iconst (q := 8) B dX2_runAt_7 rfl ?_
  refine g_isub (q := 9) B dX2_runAt_8 rfl ?_
  refine g_iand (v := (iI ((((S (4 * i) 5).toNat % 2 ^ (p.toNat + 1) : Nat) : Int)))) (q := 10) B dX2_runAt_9 rfl (run_mask hc0 hc1 h0 h1) ?_
  refine g_callS (q := 13) (As := [.int (iI ((((S (4 * i) 5).toNat % 2 ^ (p.toNat + 1) : Nat) : Int)))]) (st := []) B dX2_runAt_10 rfl (c_J6_bitCount_0f7a4 (l := xL X) (S := S) ((S (4 * i) 5).toNat % 2 ^ (p.toNat + 1)) (by omega)) eJ6_bitCount_0f7a4 w427 (by decide) rfl rfl (Nat.le_of_ble_eq_true rfl) (g_kE ?_)
  refine g_iret B E dX2_runAt_13 ?_
  exact ⟨by rw [cn_mod _ _ (by omega)]; rfl, rfl⟩
set_option maxHeartbeats 4000000 in
theorem c_X2_firstPlaceOf {Y : gY} {l : Launch} {S : SS} {i : Nat} (hi : i < 18) (hw : wf (vw S i)) (r : Int) (h0 : 0 ≤ r) (h1 : r < runsF (vw S i)) : gM Y l mX2_firstPlaceOf S [.ref (yA Y (4 * i)), .int (iI r)] (pV (.int (iI (fpF (vw S i) r))) (fun S' => S' = S)) := by
  refine gM_of (by decide) (Nat.le_of_ble_eq_true rfl) ?_
  intro X hXl B E
  obtain ⟨⟨hn0, hn16⟩, ⟨hb0, hb1⟩, ⟨hm0, hm1⟩, ⟨hs0, hs1⟩, ⟨hc0, hc1⟩, hct, hkw, how, hun⟩ := wfS hw
  have hrr := runsF_in (vw S i)
  obtain ⟨f0, f1, f2, f3⟩ := fpF_in hw h0 h1
  rw [vw_0] at f1
  show gW Y X S 0 [(0, .ref (yA Y (4 * i))), (1, .int (iI r))] []
  have lp2 : ∀ (fu : Nat) (p : Nat) (x2 : Int) , x2 = ((p : Int)) → (p : Int) ≤ fpF (vw S i) r → 17 - p < fu → gW Y X S 2 [(0, .ref (yA Y (4 * i))), (1, .int (iI r)), (2, .int (iI x2))] [] := by
    intro fu
    induction fu with
    | zero =>
      intro p x2 e_x2 hp hfu
      exact absurd hfu (Nat.not_lt_zero _)
    | succ fu ih =>
      intro p x2 e_x2 hp hfu
      subst e_x2
      refine g_iload_n (q := 3) B dX2_firstPlaceOf_2 rfl 2 rfl ?_
      refine g_aload_n (q := 4) B dX2_firstPlaceOf_3 rfl 0 rfl ?_
      refine g_get (n := (4 * i)) (ty := tyX2) (q := 7) (v := .int (iI (S ((4 * i)) 0))) B dX2_firstPlaceOf_4 rfl rfl (cw_N hi (S ((4 * i)))) cls2 0 (by decide) w65 rfl ?_
      refine g_icmp_ge (t := 27) (q := 10) B dX2_firstPlaceOf_7 (by decide) rfl ⟨by omega, by omega⟩ ⟨by omega, by omega⟩ (fun cq7 => ?_) (fun cq7 => ?_)
      · exact absurd cq7 (by omega)
      · refine g_aload_n (q := 11) B dX2_firstPlaceOf_10 rfl 0 rfl ?_
        refine g_iload_n (q := 12) B dX2_firstPlaceOf_11 rfl 2 rfl ?_
        refine g_callV (n := (4 * i)) (ty := tyX2) (q := 15) (As := [.int (iI ((p : Int)))]) (st := []) B dX2_firstPlaceOf_12 rfl (c_X2_runAt (l := xL X) (S := S) hi hc0 hc1 ((p : Int)) (by omega) (by omega)) eX2_runAt w423 (by decide) rfl (cw_N hi (S ((4 * i)))) cls2 rfl rfl (Nat.le_of_ble_eq_true rfl) (g_kE ?_)
        have := runF_in (vw S i) (p := (p : Int)) (by omega)
        refine g_iload_n (q := 16) B dX2_firstPlaceOf_15 rfl 1 rfl ?_
        refine g_icmp_ne (t := 21) (q := 19) B dX2_firstPlaceOf_16 (by decide) rfl ⟨by omega, by omega⟩ ⟨by omega, by omega⟩ (fun cq16 => ?_) (fun cq16 => ?_)
        · have hne : (p : Int) ≠ fpF (vw S i) r := fun h => cq16 (by rw [h]; exact f2)
          refine g_iinc (n := 2) (q := 24) B dX2_firstPlaceOf_21 rfl rfl (by decide) (L' := [(2, .int (iI ((p : Int) + 1))), (0, .ref (yA Y (4 * i))), (1, .int (iI r))]) rfl ?_
          refine g_goto (q := 2) B dX2_firstPlaceOf_24 (by decide) ?_
          refine g_sub [1, 2, 0] rfl ?_
          exact ih (p + 1) _ (by first | rfl | omega) (by first | assumption | omega) (by omega)
        · refine g_iload_n (q := 20) B dX2_firstPlaceOf_19 rfl 2 rfl ?_
          refine g_iret B E dX2_firstPlaceOf_20 ?_
          have e : (p : Int) = fpF (vw S i) r := by
            rcases Int.lt_or_eq_of_le hp with h | h
            · have := f3 p (by omega) h; omega
            · exact h
          exact ⟨by rw [e], rfl⟩
  refine g_iconst (q := 1) B dX2_firstPlaceOf_0 rfl ?_
  refine g_istore_n (q := 2) B dX2_firstPlaceOf_1 rfl (by decide) (L' := [(2, .int (iI 0)), (0, .ref (yA Y (4 * i))), (1, .int (iI r))]) rfl ?_
  refine g_sub [1, 2, 0] rfl ?_
  exact lp2 _ 0 _ (by first | rfl | omega) (by first | assumption | omega) (Nat.lt_succ_self _)
set_option maxHeartbeats 4000000 in
theorem c_X2_placesOf {Y : gY} {l : Launch} {S : SS} {i : Nat} (hi : i < 18) (hw : wf (vw S i)) (r : Int) (hr : rI r) : gM Y l mX2_placesOf S [.ref (yA Y (4 * i)), .int (iI r)] (pV (.int (iI (plF (vw S i) r))) (fun S' => S' = S)) := by
  refine gM_of (by decide) (Nat.le_of_ble_eq_true rfl) ?_
  intro X hXl B E
  obtain ⟨⟨hn0, hn16⟩, ⟨hb0, hb1⟩, ⟨hm0, hm1⟩, ⟨hs0, hs1⟩, ⟨hc0, hc1⟩, hct, hkw, how, hun⟩ := wfS hw
  obtain ⟨hr0, hr1⟩ := hr
  show gW Y X S 0 [(0, .ref (yA Y (4 * i))), (1, .int (iI r))] []
  have lp4 : ∀ (fu : Nat) (p : Nat) (x2 x3 : Int) , x2 = (sm (plE (vw S i) r) p) → x3 = ((p : Int)) → (p : Int) ≤ S (4 * i) 0 → (S (4 * i) 0).toNat - p < fu → gW Y X S 4 [(0, .ref (yA Y (4 * i))), (1, .int (iI r)), (2, .int (iI x2)), (3, .int (iI x3))] [] := by
    intro fu
    induction fu with
    | zero =>
      intro p x2 x3 e_x2 e_x3 hp hfu
      exact absurd hfu (Nat.not_lt_zero _)
    | succ fu ih =>
      intro p x2 x3 e_x2 e_x3 hp hfu
      subst e_x2
      subst e_x3
      refine g_iload_n (q := 5) B dX2_placesOf_4 rfl 3 rfl ?_
      refine g_aload_n (q := 6) B dX2_placesOf_5 rfl 0 rfl ?_
      refine g_get (n := (4 * i)) (ty := tyX2) (q := 9) (v := .int (iI (S ((4 * i)) 0))) B dX2_placesOf_6 rfl rfl (cw_N hi (S ((4 * i)))) cls2 0 (by decide) w65 rfl ?_
      refine g_icmp_ge (t := 30) (q := 12) B dX2_placesOf_9 (by decide) rfl ⟨by omega, by omega⟩ ⟨by omega, by omega⟩ (fun cq9 => ?_) (fun cq9 => ?_)
      · refine g_iload_n (q := 31) B dX2_placesOf_30 rfl 2 rfl ?_
        refine g_iret B E dX2_placesOf_31 ?_
        exact ⟨by rw [plF, show (vw S i 0).toNat = p by rw [vw_0]; omega], rfl⟩
      · refine g_aload_n (q := 13) B dX2_placesOf_12 rfl 0 rfl ?_
        refine g_iload_n (q := 14) B dX2_placesOf_13 rfl 3 rfl ?_
        refine g_callV (n := (4 * i)) (ty := tyX2) (q := 17) (As := [.int (iI ((p : Int)))]) (st := []) B dX2_placesOf_14 rfl (c_X2_runAt (l := xL X) (S := S) hi hc0 hc1 ((p : Int)) (by omega) (by omega)) eX2_runAt w423 (by decide) rfl (cw_N hi (S ((4 * i)))) cls2 rfl rfl (Nat.le_of_ble_eq_true rfl) (g_kE ?_)
        have := runF_in (vw S i) (p := (p : Int)) (by omega)
        refine g_iload_n (q := 18) B dX2_placesOf_17 rfl 1 rfl ?_
        refine g_icmp_ne (t := 24) (q := 21) B dX2_placesOf_18 (by decide) rfl ⟨by omega, by omega⟩ ⟨by omega, by omega⟩ (fun cq18 => ?_) (fun cq18 => ?_)
        · refine g_iinc (n := 3) (q := 27) B dX2_placesOf_24 rfl rfl (by decide) (L' := [(3, .int (iI ((p : Int) + 1))), (0, .ref (yA Y (4 * i))), (1, .int (iI r)), (2, .int (iI (sm (plE (vw S i) r) p)))]) rfl ?_
          refine g_goto (q := 4) B dX2_placesOf_27 (by decide) ?_
          refine g_sub [1, 2, 3, 0] rfl ?_
          exact ih (p + 1) _ _ (by first | rw [sm_s, plE, if_pos cq18] | rw [sm_s, plE, if_neg cq18, Int.add_zero]) (by first | rfl | omega) (by first | assumption | omega) (by omega)
        · refine g_iinc (n := 2) (q := 24) B dX2_placesOf_21 rfl rfl (by decide) (L' := [(2, .int (iI (sm (plE (vw S i) r) p + 1))), (0, .ref (yA Y (4 * i))), (1, .int (iI r)), (3, .int (iI ((p : Int))))]) rfl ?_
          refine g_iinc (n := 3) (q := 27) B dX2_placesOf_24 rfl rfl (by decide) (L' := [(3, .int (iI ((p : Int) + 1))), (2, .int (iI (sm (plE (vw S i) r) p + 1))), (0, .ref (yA Y (4 * i))), (1, .int (iI r))]) rfl ?_
          refine g_goto (q := 4) B dX2_placesOf_27 (by decide) ?_
          refine g_sub [2, 3, 1, 0] rfl ?_
          exact ih (p + 1) _ _ (by first | rw [sm_s, plE, if_pos cq18] | rw [sm_s, plE, if_neg cq18, Int.add_zero]) (by first | rfl | omega) (by first | assumption | omega) (by omega)
  refine g_iconst (q := 1) B dX2_placesOf_0 rfl ?_
  refine g_istore_n (q := 2) B dX2_placesOf_1 rfl (by decide) (L' := [(2, .int (iI 0)), (0, .ref (yA Y (4 * i))), (1, .int (iI r))]) rfl ?_
  refine g_iconst (q := 3) B dX2_placesOf_2 rfl ?_
  refine g_istore_n (q := 4) B dX2_placesOf_3 rfl (by decide) (L' := [(3, .int (iI 0)), (2, .int (iI 0)), (0, .ref (yA Y (4 * i))), (1, .int (iI r))]) rfl ?_
  refine g_sub [2, 3, 1, 0] rfl ?_
  exact lp4 _ 0 _ _ (by first | rfl | omega) (by first | rfl | omega) (by first | assumption | omega) (Nat.lt_succ_self _)
set_option maxHeartbeats 4000000 in
theorem c_X2_valueOfRun {Y : gY} {l : Launch} {S : SS} {i : Nat} (hi : i < 18) (hw : wf (vw S i)) (r : Int) (hr : rI r) : gM Y l mX2_valueOfRun S [.ref (yA Y (4 * i)), .int (iI r)] (pV (.int (iI (rvF (vw S i) r))) (fun S' => S' = S)) := by
  refine gM_of (by decide) (Nat.le_of_ble_eq_true rfl) ?_
  intro X hXl B E
  obtain ⟨⟨hn0, hn16⟩, ⟨hb0, hb1⟩, ⟨hm0, hm1⟩, ⟨hs0, hs1⟩, ⟨hc0, hc1⟩, hct, hkw, how, hun⟩ := wfS hw
  obtain ⟨hr0, hr1⟩ := hr
  show gW Y X S 0 [(0, .ref (yA Y (4 * i))), (1, .int (iI r))] []
  have lp4 : ∀ (fu : Nat) (p : Nat) (x2 x3 : Int) , x2 = (sm (rvE (vw S i) r) p) → x3 = ((p : Int)) → (p : Int) ≤ S (4 * i) 0 → (S (4 * i) 0).toNat - p < fu → gW Y X S 4 [(0, .ref (yA Y (4 * i))), (1, .int (iI r)), (2, .int (iI x2)), (3, .int (iI x3))] [] := by
    intro fu
    induction fu with
    | zero =>
      intro p x2 x3 e_x2 e_x3 hp hfu
      exact absurd hfu (Nat.not_lt_zero _)
    | succ fu ih =>
      intro p x2 x3 e_x2 e_x3 hp hfu
      subst e_x2
      subst e_x3
      refine g_iload_n (q := 5) B dX2_valueOfRun_4 rfl 3 rfl ?_
      refine g_aload_n (q := 6) B dX2_valueOfRun_5 rfl 0 rfl ?_
      refine g_get (n := (4 * i)) (ty := tyX2) (q := 9) (v := .int (iI (S ((4 * i)) 0))) B dX2_valueOfRun_6 rfl rfl (cw_N hi (S ((4 * i)))) cls2 0 (by decide) w65 rfl ?_
      refine g_icmp_ge (t := 39) (q := 12) B dX2_valueOfRun_9 (by decide) rfl ⟨by omega, by omega⟩ ⟨by omega, by omega⟩ (fun cq9 => ?_) (fun cq9 => ?_)
      · refine g_iload_n (q := 40) B dX2_valueOfRun_39 rfl 2 rfl ?_
        refine g_iret B E dX2_valueOfRun_40 ?_
        exact ⟨by rw [rvF, show (vw S i 0).toNat = p by rw [vw_0]; omega], rfl⟩
      · refine g_aload_n (q := 13) B dX2_valueOfRun_12 rfl 0 rfl ?_
        refine g_iload_n (q := 14) B dX2_valueOfRun_13 rfl 3 rfl ?_
        refine g_callV (n := (4 * i)) (ty := tyX2) (q := 17) (As := [.int (iI ((p : Int)))]) (st := []) B dX2_valueOfRun_14 rfl (c_X2_runAt (l := xL X) (S := S) hi hc0 hc1 ((p : Int)) (by omega) (by omega)) eX2_runAt w423 (by decide) rfl (cw_N hi (S ((4 * i)))) cls2 rfl rfl (Nat.le_of_ble_eq_true rfl) (g_kE ?_)
        have := runF_in (vw S i) (p := (p : Int)) (by omega)
        refine g_iload_n (q := 18) B dX2_valueOfRun_17 rfl 1 rfl ?_
        refine g_icmp_ne (t := 33) (q := 21) B dX2_valueOfRun_18 (by decide) rfl ⟨by omega, by omega⟩ ⟨by omega, by omega⟩ (fun cq18 => ?_) (fun cq18 => ?_)
        · refine g_iinc (n := 3) (q := 36) B dX2_valueOfRun_33 rfl rfl (by decide) (L' := [(3, .int (iI ((p : Int) + 1))), (0, .ref (yA Y (4 * i))), (1, .int (iI r)), (2, .int (iI (sm (rvE (vw S i) r) p)))]) rfl ?_
          refine g_goto (q := 4) B dX2_valueOfRun_36 (by decide) ?_
          refine g_sub [1, 2, 3, 0] rfl ?_
          exact ih (p + 1) _ _ (by first | rw [sm_s, rvE, if_pos cq18] | rw [sm_s, rvE, if_neg cq18, Int.add_zero]) (by first | rfl | omega) (by first | assumption | omega) (by omega)
        · refine g_iload_n (q := 22) B dX2_valueOfRun_21 rfl 2 rfl ?_
          refine g_aload_n (q := 23) B dX2_valueOfRun_22 rfl 0 rfl ?_
          refine g_aload_n (q := 24) B dX2_valueOfRun_23 rfl 0 rfl ?_
          refine g_iload_n (q := 25) B dX2_valueOfRun_24 rfl 3 rfl ?_
          refine g_callV (n := (4 * i)) (ty := tyX2) (q := 28) (As := [.int (iI ((p : Int)))]) (st := [.ref (yA Y (4 * i)), .int (iI (sm (rvE (vw S i) r) p))]) B dX2_valueOfRun_25 rfl (c_X2_jewelAt (l := xL X) (S := S) hi hw ((p : Int)) (by omega) (by omega)) eX2_jewelAt w519 (by decide) rfl (cw_N hi (S ((4 * i)))) cls2 rfl rfl (Nat.le_of_ble_eq_true rfl) (g_kE ?_)
          have hj := jatF_in hw (p := (p : Int)) (by omega) (by rw [vw_0]; omega)
          rw [vw_0] at hj
          refine g_callV (n := (4 * i)) (ty := tyX2) (q := 31) (As := [.int (iI (jatF (vw S i) ((p : Int))))]) (st := [.int (iI (sm (rvE (vw S i) r) p))]) B dX2_valueOfRun_28 rfl (c_X2_valueOf (l := xL X) (S := S) hi hw (jatF (vw S i) ((p : Int))) (by omega) (by omega)) eX2_valueOf w523 (by decide) rfl (cw_N hi (S ((4 * i)))) cls2 rfl rfl (Nat.le_of_ble_eq_true rfl) (g_kE ?_)
          refine g_iadd (q := 32) B dX2_valueOfRun_31 rfl ?_
          refine g_istore_n (q := 33) B dX2_valueOfRun_32 rfl (by decide) (L' := [(2, .int (iI ((sm (rvE (vw S i) r) p) + (valF (vw S i) (jatF (vw S i) ((p : Int))))))), (0, .ref (yA Y (4 * i))), (1, .int (iI r)), (3, .int (iI ((p : Int))))]) rfl ?_
          refine g_iinc (n := 3) (q := 36) B dX2_valueOfRun_33 rfl rfl (by decide) (L' := [(3, .int (iI ((p : Int) + 1))), (2, .int (iI ((sm (rvE (vw S i) r) p) + (valF (vw S i) (jatF (vw S i) ((p : Int))))))), (0, .ref (yA Y (4 * i))), (1, .int (iI r))]) rfl ?_
          refine g_goto (q := 4) B dX2_valueOfRun_36 (by decide) ?_
          refine g_sub [2, 3, 1, 0] rfl ?_
          exact ih (p + 1) _ _ (by first | rw [sm_s, rvE, if_pos cq18] | rw [sm_s, rvE, if_neg cq18, Int.add_zero]) (by first | rfl | omega) (by first | assumption | omega) (by omega)
  refine g_iconst (q := 1) B dX2_valueOfRun_0 rfl ?_
  refine g_istore_n (q := 2) B dX2_valueOfRun_1 rfl (by decide) (L' := [(2, .int (iI 0)), (0, .ref (yA Y (4 * i))), (1, .int (iI r))]) rfl ?_
  refine g_iconst (q := 3) B dX2_valueOfRun_2 rfl ?_
  refine g_istore_n (q := 4) B dX2_valueOfRun_3 rfl (by decide) (L' := [(3, .int (iI 0)), (2, .int (iI 0)), (0, .ref (yA Y (4 * i))), (1, .int (iI r))]) rfl ?_
  refine g_sub [2, 3, 1, 0] rfl ?_
  exact lp4 _ 0 _ _ (by first | rfl | omega) (by first | rfl | omega) (by first | assumption | omega) (Nat.lt_succ_self _)
set_option maxHeartbeats 4000000 in
theorem c_X2_placesOfNobody {Y : gY} {l : Launch} {S : SS} {i : Nat} (hi : i < 18) (hw : wf (vw S i)) : gM Y l mX2_placesOfNobody S [.ref (yA Y (4 * i))] (pV (.int (iI (nobF (vw S i)))) (fun S' => S' = S)) := by
  refine gM_of (by decide) (Nat.le_of_ble_eq_true rfl) ?_
  intro X hXl B E
  obtain ⟨⟨hn0, hn16⟩, ⟨hb0, hb1⟩, ⟨hm0, hm1⟩, ⟨hs0, hs1⟩, ⟨hc0, hc1⟩, hct, hkw, how, hun⟩ := wfS hw
  show gW Y X S 0 [(0, .ref (yA Y (4 * i)))] []
  have lp4 : ∀ (fu : Nat) (p : Nat) (x1 x2 : Int) , x1 = (sm (nobE (vw S i)) p) → x2 = ((p : Int)) → (p : Int) ≤ S (4 * i) 0 → (S (4 * i) 0).toNat - p < fu → gW Y X S 4 [(0, .ref (yA Y (4 * i))), (1, .int (iI x1)), (2, .int (iI x2))] [] := by
    intro fu
    induction fu with
    | zero =>
      intro p x1 x2 e_x1 e_x2 hp hfu
      exact absurd hfu (Nat.not_lt_zero _)
    | succ fu ih =>
      intro p x1 x2 e_x1 e_x2 hp hfu
      subst e_x1
      subst e_x2
      refine g_iload_n (q := 5) B dX2_placesOfNobody_4 rfl 2 rfl ?_
      refine g_aload_n (q := 6) B dX2_placesOfNobody_5 rfl 0 rfl ?_
      refine g_get (n := (4 * i)) (ty := tyX2) (q := 9) (v := .int (iI (S ((4 * i)) 0))) B dX2_placesOfNobody_6 rfl rfl (cw_N hi (S ((4 * i)))) cls2 0 (by decide) w65 rfl ?_
      refine g_icmp_ge (t := 30) (q := 12) B dX2_placesOfNobody_9 (by decide) rfl ⟨by omega, by omega⟩ ⟨by omega, by omega⟩ (fun cq9 => ?_) (fun cq9 => ?_)
      · refine g_iload_n (q := 31) B dX2_placesOfNobody_30 rfl 1 rfl ?_
        refine g_iret B E dX2_placesOfNobody_31 ?_
        exact ⟨by rw [nobF, show (vw S i 0).toNat = p by rw [vw_0]; omega], rfl⟩
      · refine g_aload_n (q := 13) B dX2_placesOfNobody_12 rfl 0 rfl ?_
        refine g_iload_n (q := 14) B dX2_placesOfNobody_13 rfl 2 rfl ?_
        refine g_callV (n := (4 * i)) (ty := tyX2) (q := 17) (As := [.int (iI ((p : Int)))]) (st := []) B dX2_placesOfNobody_14 rfl (c_X2_ownerAt (l := xL X) (S := S) hi ((p : Int)) (by omega) (by omega)) eX2_ownerAt w433 (by decide) rfl (cw_N hi (S ((4 * i)))) cls2 rfl rfl (Nat.le_of_ble_eq_true rfl) (g_kE ?_)
        have ho := how p (by omega) (by omega)
        refine g_iconst (q := 18) B dX2_placesOfNobody_17 rfl ?_
        refine g_icmp_ne (t := 24) (q := 21) B dX2_placesOfNobody_18 (by decide) rfl ⟨by omega, by omega⟩ ⟨by omega, by omega⟩ (fun cq18 => ?_) (fun cq18 => ?_)
        · refine g_iinc (n := 2) (q := 27) B dX2_placesOfNobody_24 rfl rfl (by decide) (L' := [(2, .int (iI ((p : Int) + 1))), (0, .ref (yA Y (4 * i))), (1, .int (iI (sm (nobE (vw S i)) p)))]) rfl ?_
          refine g_goto (q := 4) B dX2_placesOfNobody_27 (by decide) ?_
          refine g_sub [1, 2, 0] rfl ?_
          exact ih (p + 1) _ _ (by first | rw [sm_s, nobE, vw_o S i (by omega) (by omega), if_pos cq18] | rw [sm_s, nobE, vw_o S i (by omega) (by omega), if_neg cq18, Int.add_zero]) (by first | rfl | omega) (by first | assumption | omega) (by omega)
        · refine g_iinc (n := 1) (q := 24) B dX2_placesOfNobody_21 rfl rfl (by decide) (L' := [(1, .int (iI (sm (nobE (vw S i)) p + 1))), (0, .ref (yA Y (4 * i))), (2, .int (iI ((p : Int))))]) rfl ?_
          refine g_iinc (n := 2) (q := 27) B dX2_placesOfNobody_24 rfl rfl (by decide) (L' := [(2, .int (iI ((p : Int) + 1))), (1, .int (iI (sm (nobE (vw S i)) p + 1))), (0, .ref (yA Y (4 * i)))]) rfl ?_
          refine g_goto (q := 4) B dX2_placesOfNobody_27 (by decide) ?_
          refine g_sub [2, 1, 0] rfl ?_
          exact ih (p + 1) _ _ (by first | rw [sm_s, nobE, vw_o S i (by omega) (by omega), if_pos cq18] | rw [sm_s, nobE, vw_o S i (by omega) (by omega), if_neg cq18, Int.add_zero]) (by first | rfl | omega) (by first | assumption | omega) (by omega)
  refine g_iconst (q := 1) B dX2_placesOfNobody_0 rfl ?_
  refine g_istore_n (q := 2) B dX2_placesOfNobody_1 rfl (by decide) (L' := [(1, .int (iI 0)), (0, .ref (yA Y (4 * i)))]) rfl ?_
  refine g_iconst (q := 3) B dX2_placesOfNobody_2 rfl ?_
  refine g_istore_n (q := 4) B dX2_placesOfNobody_3 rfl (by decide) (L' := [(2, .int (iI 0)), (1, .int (iI 0)), (0, .ref (yA Y (4 * i)))]) rfl ?_
  refine g_sub [2, 1, 0] rfl ?_
  exact lp4 _ 0 _ _ (by first | rfl | omega) (by first | rfl | omega) (by first | assumption | omega) (Nat.lt_succ_self _)
set_option maxHeartbeats 4000000 in
theorem c_X2_holding {Y : gY} {l : Launch} {S : SS} {i : Nat} (hi : i < 18) (hw : wf (vw S i)) (s k : Int) (hs : rI s) (hk : rI k) : gM Y l mX2_holding S [.ref (yA Y (4 * i)), .int (iI s), .int (iI k)] (pV (.int (iI (hasF (vw S i) s k))) (fun S' => S' = S)) := by
  refine gM_of (by decide) (Nat.le_of_ble_eq_true rfl) ?_
  intro X hXl B E
  obtain ⟨⟨hn0, hn16⟩, ⟨hb0, hb1⟩, ⟨hm0, hm1⟩, ⟨hs0, hs1⟩, ⟨hc0, hc1⟩, hct, hkw, how, hun⟩ := wfS hw
  obtain ⟨hsa, hsb⟩ := hs
  obtain ⟨hka, hkb⟩ := hk
  show gW Y X S 0 [(0, .ref (yA Y (4 * i))), (1, .int (iI s)), (2, .int (iI k))] []
  have lp5 : ∀ (fu : Nat) (p : Nat) (x3 x4 : Int) , x3 = (sm (hasE (vw S i) s k) p) → x4 = ((p : Int)) → (p : Int) ≤ S (4 * i) 0 → (S (4 * i) 0).toNat - p < fu → gW Y X S 5 [(0, .ref (yA Y (4 * i))), (1, .int (iI s)), (2, .int (iI k)), (3, .int (iI x3)), (4, .int (iI x4))] [] := by
    intro fu
    induction fu with
    | zero =>
      intro p x3 x4 e_x3 e_x4 hp hfu
      exact absurd hfu (Nat.not_lt_zero _)
    | succ fu ih =>
      intro p x3 x4 e_x3 e_x4 hp hfu
      subst e_x3
      subst e_x4
      refine g_iload (q := 7) B dX2_holding_5 rfl 4 rfl ?_
      refine g_aload_n (q := 8) B dX2_holding_7 rfl 0 rfl ?_
      refine g_get (n := (4 * i)) (ty := tyX2) (q := 11) (v := .int (iI (S ((4 * i)) 0))) B dX2_holding_8 rfl rfl (cw_N hi (S ((4 * i)))) cls2 0 (by decide) w65 rfl ?_
      refine g_icmp_ge (t := 57) (q := 14) B dX2_holding_11 (by decide) rfl ⟨by omega, by omega⟩ ⟨by omega, by omega⟩ (fun cq11 => ?_) (fun cq11 => ?_)
      · refine g_iload_n (q := 58) B dX2_holding_57 rfl 3 rfl ?_
        refine g_iret B E dX2_holding_58 ?_
        exact ⟨by rw [hasF, show (vw S i 0).toNat = p by rw [vw_0]; omega], rfl⟩
      · refine g_aload_n (q := 15) B dX2_holding_14 rfl 0 rfl ?_
        refine g_iload (q := 17) B dX2_holding_15 rfl 4 rfl ?_
        refine g_callV (n := (4 * i)) (ty := tyX2) (q := 20) (As := [.int (iI ((p : Int)))]) (st := []) B dX2_holding_17 rfl (c_X2_jewelAt (l := xL X) (S := S) hi hw ((p : Int)) (by omega) (by omega)) eX2_jewelAt w519 (by decide) rfl (cw_N hi (S ((4 * i)))) cls2 rfl rfl (Nat.le_of_ble_eq_true rfl) (g_kE ?_)
        have hj := jatF_in hw (p := (p : Int)) (by omega) (by rw [vw_0]; omega)
        rw [vw_0] at hj
        refine g_istore (q := 22) B dX2_holding_20 rfl (by decide) (L' := [(5, .int (iI (jatF (vw S i) ((p : Int))))), (0, .ref (yA Y (4 * i))), (1, .int (iI s)), (2, .int (iI k)), (3, .int (iI (sm (hasE (vw S i) s k) p))), (4, .int (iI ((p : Int))))]) rfl ?_
        refine g_aload_n (q := 23) B dX2_holding_22 rfl 1 rfl ?_
        refine g_iload (q := 25) B dX2_holding_23 rfl 5 rfl ?_
        refine g_callV (n := (4 * i)) (ty := tyX2) (q := 28) (As := [.int (iI ((p : Int)))]) (st := []) B dX2_holding_25 rfl (c_X2_ownerAt (l := xL X) (S := S) hi ((p : Int)) (by omega) (by omega)) eX2_ownerAt w433 (by decide) rfl (cw_N hi (S ((4 * i)))) cls2 rfl rfl (Nat.le_of_ble_eq_true rfl) (g_kE ?_)
        have ho := how p (by omega) (by omega)
        refine g_iload_n (q := 29) B dX2_holding_28 rfl 2 rfl ?_
        refine g_icmp_ne (t := 51) (q := 32) B dX2_holding_29 (by decide) rfl ⟨by omega, by omega⟩ ⟨by omega, by omega⟩ (fun cq29 => ?_) (fun cq29 => ?_)
        · refine g_iinc (n := 5) (q := 54) B dX2_holding_51 rfl rfl (by decide) (L' := [(4, .int (iI ((p : Int) + 1))), (5, .int (iI (jatF (vw S i) ((p : Int))))), (0, .ref (yA Y (4 * i))), (1, .int (iI s)), (2, .int (iI k)), (3, .int (iI (sm (hasE (vw S i) s k) p)))]) rfl ?_
          refine g_goto (q := 5) B dX2_holding_54 (by decide) ?_
          refine g_sub [2, 3, 4, 5, 0] rfl ?_
          exact ih (p + 1) _ _ (by first | rw [sm_s, hasE, vw_o S i (by omega) (by omega), vw_k S i hj.1 (by omega), if_pos (And.intro cq29 cq39)] | rw [sm_s, hasE, vw_o S i (by omega) (by omega), vw_k S i hj.1 (by omega), if_neg (fun z => cq39 z.2), Int.add_zero] | rw [sm_s, hasE, vw_o S i (by omega) (by omega), if_neg (fun z => cq29 z.1), Int.add_zero]) (by first | rfl | omega) (by first | assumption | omega) (by omega)
        · refine g_aload_n (q := 33) B dX2_holding_32 rfl 1 rfl ?_
          refine g_iload (q := 35) B dX2_holding_33 rfl 0 rfl ?_
          refine g_callV (n := (4 * i)) (ty := tyX2) (q := 38) (As := [.int (iI (jatF (vw S i) ((p : Int))))]) (st := []) B dX2_holding_35 rfl (c_X2_kindOf (l := xL X) (S := S) hi (jatF (vw S i) ((p : Int))) (by omega) (by omega)) eX2_kindOf w491 (by decide) rfl (cw_N hi (S ((4 * i)))) cls2 rfl rfl (Nat.le_of_ble_eq_true rfl) (g_kE ?_)
          have hkk := hkw _ hj.1 hj.2
          refine g_iload_n (q := 39) B dX2_holding_38 rfl 3 rfl ?_
          refine g_icmp_ne (t := 51) (q := 42) B dX2_holding_39 (by decide) rfl ⟨by omega, by omega⟩ ⟨by omega, by omega⟩ (fun cq39 => ?_) (fun cq39 => ?_)
          · refine g_iinc (n := 5) (q := 54) B dX2_holding_51 rfl rfl (by decide) (L' := [(4, .int (iI ((p : Int) + 1))), (5, .int (iI (jatF (vw S i) ((p : Int))))), (0, .ref (yA Y (4 * i))), (1, .int (iI s)), (2, .int (iI k)), (3, .int (iI (sm (hasE (vw S i) s k) p)))]) rfl ?_
            refine g_goto (q := 5) B dX2_holding_54 (by decide) ?_
            refine g_sub [2, 3, 4, 5, 0] rfl ?_
            exact ih (p + 1) _ _ (by first | rw [sm_s, hasE, vw_o S i (by omega) (by omega), vw_k S i hj.1 (by omega), if_pos (And.intro cq29 cq39)] | rw [sm_s, hasE, vw_o S i (by omega) (by omega), vw_k S i hj.1 (by omega), if_neg (fun z => cq39 z.2), Int.add_zero] | rw [sm_s, hasE, vw_o S i (by omega) (by omega), if_neg (fun z => cq29 z.1), Int.add_zero]) (by first | rfl | omega) (by first | assumption | omega) (by omega)
          · refine g_iload_n (q := 43) B dX2_holding_42 rfl 4 rfl ?_
            refine g_aload_n (q := 44) B dX2_holding_43 rfl 1 rfl ?_
            refine g_iload (q := 46) B dX2_holding_44 rfl 0 rfl ?_
            refine g_callV (n := (4 * i)) (ty := tyX2) (q := 49) (As := [.int (iI (jatF (vw S i) ((p : Int))))]) (st := [.int (iI (sm (hasE (vw S i) s k) p))]) B dX2_holding_46 rfl (c_X2_valueOf (l := xL X) (S := S) hi hw (jatF (vw S i) ((p : Int))) (by omega) (by omega)) eX2_valueOf w523 (by decide) rfl (cw_N hi (S ((4 * i)))) cls2 rfl rfl (Nat.le_of_ble_eq_true rfl) (g_kE ?_)
            refine g_iadd (q := 50) B dX2_holding_49 rfl ?_
            refine g_istore_n (q := 51) B dX2_holding_50 rfl (by decide) (L' := [(3, .int (iI ((sm (hasE (vw S i) s k) p) + (valF (vw S i) (jatF (vw S i) ((p : Int))))))), (5, .int (iI (jatF (vw S i) ((p : Int))))), (0, .ref (yA Y (4 * i))), (1, .int (iI s)), (2, .int (iI k)), (4, .int (iI ((p : Int))))]) rfl ?_
            refine g_iinc (n := 5) (q := 54) B dX2_holding_51 rfl rfl (by decide) (L' := [(4, .int (iI ((p : Int) + 1))), (3, .int (iI ((sm (hasE (vw S i) s k) p) + (valF (vw S i) (jatF (vw S i) ((p : Int))))))), (5, .int (iI (jatF (vw S i) ((p : Int))))), (0, .ref (yA Y (4 * i))), (1, .int (iI s)), (2, .int (iI k))]) rfl ?_
            refine g_goto (q := 5) B dX2_holding_54 (by decide) ?_
            refine g_sub [3, 4, 5, 1, 0] rfl ?_
            exact ih (p + 1) _ _ (by first | rw [sm_s, hasE, vw_o S i (by omega) (by omega), vw_k S i hj.1 (by omega), if_pos (And.intro cq29 cq39)] | rw [sm_s, hasE, vw_o S i (by omega) (by omega), vw_k S i hj.1 (by omega), if_neg (fun z => cq39 z.2), Int.add_zero] | rw [sm_s, hasE, vw_o S i (by omega) (by omega), if_neg (fun z => cq29 z.1), Int.add_zero]) (by first | rfl | omega) (by first | assumption | omega) (by omega)
  refine g_iconst (q := 1) B dX2_holding_0 rfl ?_
  refine g_istore_n (q := 2) B dX2_holding_1 rfl (by decide) (L' := [(3, .int (iI 0)), (0, .ref (yA Y (4 * i))), (1, .int (iI s)), (2, .int (iI k))]) rfl ?_
  refine g_iconst (q := 3) B dX2_holding_2 rfl ?_
  refine g_istore (q := 5) B dX2_holding_3 rfl (by decide) (L' := [(4, .int (iI 0)), (3, .int (iI 0)), (0, .ref (yA Y (4 * i))), (1, .int (iI s)), (2, .int (iI k))]) rfl ?_
  refine g_sub [2, 3, 4, 1, 0] rfl ?_
  exact lp5 _ 0 _ _ (by first | rfl | omega) (by first | rfl | omega) (by first | assumption | omega) (Nat.lt_succ_self _)
set_option maxHeartbeats 4000000 in
theorem c_X2_gap {Y : gY} {l : Launch} {S : SS} {i : Nat} (hi : i < 18) (hw : wf (vw S i)) : gM Y l mX2_gap S [.ref (yA Y (4 * i))] (pV (.int (iI (gapF (vw S i)))) (fun S' => S' = S)) := by
  refine gM_of (by decide) (Nat.le_of_ble_eq_true rfl) ?_
  intro X hXl B E
  obtain ⟨⟨hn0, hn16⟩, ⟨hb0, hb1⟩, ⟨hm0, hm1⟩, ⟨hs0, hs1⟩, ⟨hc0, hc1⟩, hct, hkw, how, hun⟩ := wfS hw
  show gW Y X S 0 [(0, .ref (yA Y (4 * i)))] []
  have lp4 : ∀ (fu : Nat) (k : Nat) (x1 x2 : Int) , x1 = (sm (gapE (vw S i)) k) → x2 = ((k : Int)) → k ≤ 4 → 4 - k < fu → gW Y X S 4 [(0, .ref (yA Y (4 * i))), (1, .int (iI x1)), (2, .int (iI x2))] [] := by
    intro fu
    induction fu with
    | zero =>
      intro k x1 x2 e_x1 e_x2 hk hfu
      exact absurd hfu (Nat.not_lt_zero _)
    | succ fu ih =>
      intro k x1 x2 e_x1 e_x2 hk hfu
      subst e_x1
      subst e_x2
      refine g_iload_n (q := 5) B dX2_gap_4 rfl 2 rfl ?_
      refine g_iconst (q := 6) B dX2_gap_5 rfl ?_
      refine g_icmp_ge (t := 34) (q := 9) B dX2_gap_6 (by decide) rfl ⟨by omega, by omega⟩ ⟨by omega, by omega⟩ (fun cq6 => ?_) (fun cq6 => ?_)
      · refine g_iload_n (q := 35) B dX2_gap_34 rfl 1 rfl ?_
        refine g_iret B E dX2_gap_35 ?_
        exact ⟨by rw [gapF, show k = 4 by omega], rfl⟩
      · refine g_iload_n (q := 10) B dX2_gap_9 rfl 1 rfl ?_
        refine g_aload_n (q := 11) B dX2_gap_10 rfl 0 rfl ?_
        refine g_iconst (q := 12) B dX2_gap_11 rfl ?_
        refine g_iload_n (q := 13) B dX2_gap_12 rfl 2 rfl ?_
        refine g_callV (n := (4 * i)) (ty := tyX2) (q := 16) (As := [.int (iI 0), .int (iI ((k : Int)))]) (st := [.int (iI (sm (gapE (vw S i)) k))]) B dX2_gap_13 rfl (c_X2_holding (l := xL X) (S := S) hi hw 0 ((k : Int)) ⟨by omega, by omega⟩ ⟨by omega, by omega⟩) eX2_holding w515 (by decide) rfl (cw_N hi (S ((4 * i)))) cls2 rfl rfl (Nat.le_of_ble_eq_true rfl) (g_kE ?_)
        have := hasF_in hw 0 ((k : Int))
        refine g_aload_n (q := 17) B dX2_gap_16 rfl 0 rfl ?_
        refine g_iconst (q := 18) B dX2_gap_17 rfl ?_
        refine g_iload_n (q := 19) B dX2_gap_18 rfl 2 rfl ?_
        refine g_callV (n := (4 * i)) (ty := tyX2) (q := 22) (As := [.int (iI 1), .int (iI ((k : Int)))]) (st := [.int (iI (hasF (vw S i) 0 ((k : Int)))), .int (iI (sm (gapE (vw S i)) k))]) B dX2_gap_19 rfl (c_X2_holding (l := xL X) (S := S) hi hw 1 ((k : Int)) ⟨by omega, by omega⟩ ⟨by omega, by omega⟩) eX2_holding w515 (by decide) rfl (cw_N hi (S ((4 * i)))) cls2 rfl rfl (Nat.le_of_ble_eq_true rfl) (g_kE ?_)
        have := hasF_in hw 1 ((k : Int))
        refine g_isub (q := 23) B dX2_gap_22 rfl ?_
        refine g_abs (q := 26) B dX2_gap_23 rfl w527 wst_abs w32 wco_abs (by decide) (Nat.le_of_ble_eq_true rfl) ⟨by omega, by omega⟩ ?_
        refine g_iadd (q := 27) B dX2_gap_26 rfl ?_
        refine g_istore_n (q := 28) B dX2_gap_27 rfl (by decide) (L' := [(1, .int (iI ((sm (gapE (vw S i)) k) + (absI ((hasF (vw S i) 0 ((k : Int))) - (hasF (vw S i) 1 ((k : Int)))))))), (0, .ref (yA Y (4 * i))), (2, .int (iI ((k : Int))))]) rfl ?_
        refine g_iinc (n := 2) (q := 31) B dX2_gap_28 rfl rfl (by decide) (L' := [(2, .int (iI ((k : Int) + 1))), (1, .int (iI ((sm (gapE (vw S i)) k) + (absI ((hasF (vw S i) 0 ((k : Int))) - (hasF (vw S i) 1 ((k : Int)))))))), (0, .ref (yA Y (4 * i)))]) rfl ?_
        refine g_goto (q := 4) B dX2_gap_31 (by decide) ?_
        refine g_sub [2, 1, 0] rfl ?_
        exact ih (k + 1) _ _ (by first | rfl | omega) (by first | rfl | omega) (by first | assumption | omega) (by omega)
  refine g_iconst (q := 1) B dX2_gap_0 rfl ?_
  refine g_istore_n (q := 2) B dX2_gap_1 rfl (by decide) (L' := [(1, .int (iI 0)), (0, .ref (yA Y (4 * i)))]) rfl ?_
  refine g_iconst (q := 3) B dX2_gap_2 rfl ?_
  refine g_istore_n (q := 4) B dX2_gap_3 rfl (by decide) (L' := [(2, .int (iI 0)), (1, .int (iI 0)), (0, .ref (yA Y (4 * i)))]) rfl ?_
  refine g_sub [2, 1, 0] rfl ?_
  exact lp4 _ 0 _ _ (by first | rfl | omega) (by first | rfl | omega) (by first | assumption | omega) (Nat.lt_succ_self _)
set_option maxHeartbeats 4000000 in
theorem c_X2_isFair {Y : gY} {l : Launch} {S : SS} {i : Nat} (hi : i < 18) (hw : wf (vw S i)) : gM Y l mX2_isFair S [.ref (yA Y (4 * i))] (pV (.int (bI (nobF (vw S i) = 0 ∧ gapF (vw S i) = 0))) (fun S' => S' = S)) := by
  refine gM_of (by decide) (Nat.le_of_ble_eq_true rfl) ?_
  intro X hXl B E
  obtain ⟨⟨hn0, hn16⟩, ⟨hb0, hb1⟩, ⟨hm0, hm1⟩, ⟨hs0, hs1⟩, ⟨hc0, hc1⟩, hct, hkw, how, hun⟩ := wfS hw
  show gW Y X S 0 [(0, .ref (yA Y (4 * i)))] []
  refine g_aload_n (q := 1) B dX2_isFair_0 rfl 0 rfl ?_
  refine g_callV (n := (4 * i)) (ty := tyX2) (q := 4) (As := []) (st := []) B dX2_isFair_1 rfl (c_X2_placesOfNobody (l := xL X) (S := S) hi hw) eX2_placesOfNobody w534 (by decide) rfl (cw_N hi (S ((4 * i)))) cls2 rfl rfl (Nat.le_of_ble_eq_true rfl) (g_kE ?_)
  have := nobF_in hw
  refine g_if_ne (t := 18) (q := 7) B dX2_isFair_4 (by decide) rfl ⟨by omega, by omega⟩ (fun cq4 => ?_) (fun cq4 => ?_)
  · refine g_iconst (q := 19) B dX2_isFair_18 rfl ?_
    refine g_zret B E dX2_isFair_19 rfl (by decide) ?_
    exact ⟨zf (by omega), rfl⟩
  · refine g_aload_n (q := 8) B dX2_isFair_7 rfl 0 rfl ?_
    refine g_callV (n := (4 * i)) (ty := tyX2) (q := 11) (As := []) (st := []) B dX2_isFair_8 rfl (c_X2_gap (l := xL X) (S := S) hi hw) eX2_gap w538 (by decide) rfl (cw_N hi (S ((4 * i)))) cls2 rfl rfl (Nat.le_of_ble_eq_true rfl) (g_kE ?_)
    have := gapF_in hw
    refine g_if_ne (t := 18) (q := 14) B dX2_isFair_11 (by decide) rfl ⟨by omega, by omega⟩ (fun cq11 => ?_) (fun cq11 => ?_)
    · refine g_iconst (q := 19) B dX2_isFair_18 rfl ?_
      refine g_zret B E dX2_isFair_19 rfl (by decide) ?_
      exact ⟨zf (by omega), rfl⟩
    · refine g_iconst (q := 15) B dX2_isFair_14 rfl ?_
      refine g_goto (q := 19) B dX2_isFair_15 (by decide) ?_
      refine g_zret B E dX2_isFair_19 rfl (by decide) ?_
      exact ⟨zt (by omega), rfl⟩
set_option maxHeartbeats 4000000 in
theorem c_X2_reasonAgainstTaking {Y : gY} {l : Launch} {S : SS} {i : Nat} (hi : i < 18) (hw : wf (vw S i)) (r : Int) (h0 : 0 ≤ r) (h1 : r < runsF (vw S i)) : gM Y l mX2_reasonAgainstTaking S [.ref (yA Y (4 * i)), .int (iI r)] (pV (.int (iI (whyF (vw S i) r))) (fun S' => S' = S)) := by
  refine gM_of (by decide) (Nat.le_of_ble_eq_true rfl) ?_
  intro X hXl B E
  obtain ⟨⟨hn0, hn16⟩, ⟨hb0, hb1⟩, ⟨hm0, hm1⟩, ⟨hs0, hs1⟩, ⟨hc0, hc1⟩, hct, hkw, how, hun⟩ := wfS hw
  obtain ⟨f0, f1, f2, f3⟩ := fpF_in hw h0 h1
  rw [vw_0] at f1
  have ho := how (fpF (vw S i) r) f0 (by omega)
  have e : vw S i (38 + fpF (vw S i) r) = S (4 * i + 3) (fpF (vw S i) r) := vw_o S i f0 (by omega)
  show gW Y X S 0 [(0, .ref (yA Y (4 * i))), (1, .int (iI r))] []
  refine g_aload_n (q := 1) B dX2_reasonAgainstTaking_0 rfl 0 rfl ?_
  refine g_aload_n (q := 2) B dX2_reasonAgainstTaking_1 rfl 0 rfl ?_
  refine g_iload_n (q := 3) B dX2_reasonAgainstTaking_2 rfl 1 rfl ?_
  refine g_callV (n := (4 * i)) (ty := tyX2) (q := 6) (As := [.int (iI r)]) (st := [.ref (yA Y (4 * i))]) B dX2_reasonAgainstTaking_3 rfl (c_X2_firstPlaceOf (l := xL X) (S := S) hi hw r (by omega) (by omega)) eX2_firstPlaceOf w467 (by decide) rfl (cw_N hi (S ((4 * i)))) cls2 rfl rfl (Nat.le_of_ble_eq_true rfl) (g_kE ?_)
  have hfp := fpF_in hw (r := r) (by omega) (by omega)
  refine g_callV (n := (4 * i)) (ty := tyX2) (q := 9) (As := [.int (iI (fpF (vw S i) r))]) (st := []) B dX2_reasonAgainstTaking_6 rfl (c_X2_ownerAt (l := xL X) (S := S) hi (fpF (vw S i) r) (by omega) (by omega)) eX2_ownerAt w433 (by decide) rfl (cw_N hi (S ((4 * i)))) cls2 rfl rfl (Nat.le_of_ble_eq_true rfl) (g_kE ?_)
  refine g_istore_n (q := 10) B dX2_reasonAgainstTaking_9 rfl (by decide) (L' := [(2, .int (iI (S (4 * i + 3) (fpF (vw S i) r)))), (0, .ref (yA Y (4 * i))), (1, .int (iI r))]) rfl ?_
  refine g_iload_n (q := 11) B dX2_reasonAgainstTaking_10 rfl 0 rfl ?_
  refine g_iconst (q := 12) B dX2_reasonAgainstTaking_11 rfl ?_
  refine g_icmp_ne (t := 17) (q := 15) B dX2_reasonAgainstTaking_12 (by decide) rfl ⟨by omega, by omega⟩ ⟨by omega, by omega⟩ (fun cq12 => ?_) (fun cq12 => ?_)
  · refine g_iload_n (q := 18) B dX2_reasonAgainstTaking_17 rfl 0 rfl ?_
    refine g_aload_n (q := 19) B dX2_reasonAgainstTaking_18 rfl 1 rfl ?_
    refine g_get (n := (4 * i)) (ty := tyX2) (q := 22) (v := .int (iI (S ((4 * i)) 2))) B dX2_reasonAgainstTaking_19 rfl rfl (cw_N hi (S ((4 * i)))) cls2 2 (by decide) w71 rfl ?_
    refine g_icmp_ne (t := 29) (q := 25) B dX2_reasonAgainstTaking_22 (by decide) rfl ⟨by omega, by omega⟩ ⟨by omega, by omega⟩ (fun cq22 => ?_) (fun cq22 => ?_)
    · refine g_iconst (q := 30) B dX2_reasonAgainstTaking_29 rfl ?_
      refine g_iret B E dX2_reasonAgainstTaking_30 ?_
      exact ⟨by rw [whyF, e, if_neg cq12, vw_2, if_neg cq22], rfl⟩
    · refine g_iconst (q := 26) B dX2_reasonAgainstTaking_25 rfl ?_
      refine g_goto (q := 30) B dX2_reasonAgainstTaking_26 (by decide) ?_
      refine g_iret B E dX2_reasonAgainstTaking_30 ?_
      exact ⟨by rw [whyF, e, if_neg cq12, vw_2, if_pos cq22], rfl⟩
  · refine g_iconst (q := 16) B dX2_reasonAgainstTaking_15 rfl ?_
    refine g_iret B E dX2_reasonAgainstTaking_16 ?_
    exact ⟨by rw [whyF, e, if_pos cq12], rfl⟩
