set_option maxHeartbeats 4000000 in
theorem c_X7_append {Y : gY} {l : Launch} {S : SS} (hst : l.stackTraces = false) (hz : 0 ≤ S 73 0 ∧ S 73 0 ≤ 120) (ht : ∀ c : Int, 0 ≤ c → c < 120 → 0 ≤ S 74 c ∧ S 74 c ≤ 255) (c : Int) (hc : rI c) : gV Y l mX7_append S [.ref (yA Y 72), .int (iI c)] (xO (cd_len (S 73 0) c) (S 73 0 + 1) (fun S' => S' = us (us S 74 (uq (S 74) (S 73 0) c)) 73 (uq (S 73) 0 (S 73 0 + 1)))) (xE2 (cd_len (S 73 0) c) [eA, eS] (fun S' => S' = S)) := by
  refine gV_of hst (by decide) (Nat.le_of_ble_eq_true rfl) ?_
  intro X hXl B V
  obtain ⟨hc0, hc1⟩ := hc
  show gW Y X S 0 [(0, .ref (yA Y 72)), (1, .int (iI c))] []
  refine g_iload_n (q := 1) B dX7_append_0 rfl 1 rfl ?_
  refine g_if_lt (t := 11) (q := 4) B dX7_append_1 (by decide) rfl ⟨by omega, by omega⟩ (fun cq1 => ?_) (fun cq1 => ?_)
  · refine gx_throw (cls := "java/lang/IllegalArgumentException") (text := "c is not 0 to 255") B V gEx_A (by decide) (by decide) dX7_append_11 dX7_append_14 dX7_append_15 dX7_append_17 dX7_append_20 ?_
    exact ⟨0, (show cd_len (S 73 0) c = ((0 : Nat) : Int) + 1 by unfold cd_len; (repeat' split) <;> omega), rfl, rfl⟩
  · refine g_iload_n (q := 5) B dX7_append_4 rfl 1 rfl ?_
    refine g_sipush (q := 8) B dX7_append_5 rfl (by decide) ?_
    refine g_icmp_le (t := 21) (q := 11) B dX7_append_8 (by decide) rfl ⟨by omega, by omega⟩ ⟨by omega, by omega⟩ (fun cq8 => ?_) (fun cq8 => ?_)
    · refine g_aload_n (q := 22) B dX7_append_21 rfl 0 rfl ?_
      refine g_get (n := 72) (ty := tyX7) (q := 25) (v := .ref (yA Y 73)) B dX7_append_22 rfl rfl rfl cls5 0 (by decide) w157 rfl ?_
      refine g_get (n := 73) (ty := tyX6) (q := 28) (v := .int (iI (S 73 0))) B dX7_append_25 rfl rfl rfl cls4 1 (by decide) w52 rfl ?_
      refine g_bipush (q := 30) B dX7_append_28 rfl (by decide) ?_
      refine g_icmp_lt (t := 43) (q := 33) B dX7_append_30 (by decide) rfl ⟨by omega, by omega⟩ ⟨by omega, by omega⟩ (fun cq30 => ?_) (fun cq30 => ?_)
      · refine g_aload_n (q := 44) B dX7_append_43 rfl 0 rfl ?_
        refine g_get (n := 72) (ty := tyX7) (q := 47) (v := .ref (yA Y 73)) B dX7_append_44 rfl rfl rfl cls5 0 (by decide) w157 rfl ?_
        refine g_iload_n (q := 48) B dX7_append_47 rfl 1 rfl ?_
        refine g_i2c (v := iI c) (q := 49) B dX7_append_48 rfl (i2c_id (by omega) (by omega)) ?_
        refine g_callV (n := 73) (ty := tyX6) (q := 52) (As := [.int (iI c)]) (st := []) B dX7_append_49 rfl (c_X6_add (l := xL X) (S := S) c (by omega) (by omega) (by omega)) eX6_add w275 (by decide) rfl rfl cls4 rfl rfl (Nat.le_of_ble_eq_true rfl) (g_k0 (fun Sy hSy => ?_))
        have hSy2 : Sy = us (us S 74 (uq (S 74) (S 73 0) c)) 73 (uq (S 73) 0 (S 73 0 + 1)) := hSy
        refine g_aload_n (q := 53) B dX7_append_52 rfl 0 rfl ?_
        refine g_get (n := 72) (ty := tyX7) (q := 56) (v := .ref (yA Y 73)) B dX7_append_53 rfl rfl rfl cls5 0 (by decide) w157 rfl ?_
        refine g_get (n := 73) (ty := tyX6) (q := 59) (v := .int (iI (Sy 73 0))) B dX7_append_56 rfl rfl rfl cls4 1 (by decide) w52 rfl ?_
        refine gx_iret B V dX7_append_59 ?_
        have e0 : cd_len (S 73 0) c = 0 := by unfold cd_len; (repeat' split) <;> omega
        have ev : S 73 0 + 1 = Sy 73 0 := by rw [hSy2]; rfl
        exact ⟨e0, by rw [ev], hSy2⟩
      · refine gx_throw (cls := "java/lang/IllegalStateException") (text := "the text has 120 characters") B V gEx_S (by decide) (by decide) dX7_append_33 dX7_append_36 dX7_append_37 dX7_append_39 dX7_append_42 ?_
        exact ⟨1, (show cd_len (S 73 0) c = ((1 : Nat) : Int) + 1 by unfold cd_len; (repeat' split) <;> omega), rfl, rfl⟩
    · refine gx_throw (cls := "java/lang/IllegalArgumentException") (text := "c is not 0 to 255") B V gEx_A (by decide) (by decide) dX7_append_11 dX7_append_14 dX7_append_15 dX7_append_17 dX7_append_20 ?_
      exact ⟨0, (show cd_len (S 73 0) c = ((0 : Nat) : Int) + 1 by unfold cd_len; (repeat' split) <;> omega), rfl, rfl⟩
set_option maxHeartbeats 4000000 in
theorem c_X7_load {Y : gY} {l : Launch} {S : SS} (hst : l.stackTraces = false) (hz : 0 ≤ S 73 0 ∧ S 73 0 ≤ 120) (ht : ∀ c : Int, 0 ≤ c → c < 120 → 0 ≤ S 74 c ∧ S 74 c ≤ 255) (hw : wf (vw S 0)) (hslot : S 80 0 = S 80 0) : gV Y l mX7_load S [.ref (yA Y 72)] (xO (cd_e (errF (S 74) (S 73 0))) (rtB (S 74) (S 73 0) 120 1 (newF (vw S 0))) (fun S' => vw S' 0 = rtG (S 74) (S 73 0) 120 1 (newF (vw S 0)) ∧ (S' 75 0 = S 75 0 ∧ S' 75 1 = 0) ∧ (S' 80 0 = 0 ∧ S' 81 0 = 0) ∧ ∀ m : Nat, 4 ≤ m → m ≠ 75 → m ≠ 80 → m ≠ 81 → S' m = S m)) (xE2 (cd_e (errF (S 74) (S 73 0))) [eS] (fun S' => S' = S)) := by
  refine gV_of hst (by decide) (Nat.le_of_ble_eq_true rfl) ?_
  intro X hXl B V
  show gW Y X S 0 [(0, .ref (yA Y 72))] []
  refine g_aload_n (q := 1) B dX7_load_0 rfl 0 rfl ?_
  refine g_get (n := 72) (ty := tyX7) (q := 4) (v := .ref (yA Y 73)) B dX7_load_1 rfl rfl rfl cls5 0 (by decide) w157 rfl ?_
  refine g_callV (n := 73) (ty := tyX6) (q := 7) (As := []) (st := []) B dX7_load_4 rfl (c_X6_firstError (l := xL X) (S := S) hz ht) eX6_firstError w288 (by decide) rfl rfl cls4 rfl rfl (Nat.le_of_ble_eq_true rfl) (g_kE ?_)
  have her := errF_in (t := S 74) (z := S 73 0) hz.1
  refine g_iconst (q := 8) B dX7_load_7 rfl ?_
  refine g_icmp_eq (t := 21) (q := 11) B dX7_load_8 (by decide) rfl ⟨by omega, by omega⟩ ⟨by omega, by omega⟩ (fun cq8 => ?_) (fun cq8 => ?_)
  · refine g_aload_n (q := 22) B dX7_load_21 rfl 0 rfl ?_
    refine g_get (n := 72) (ty := tyX7) (q := 25) (v := .ref (yA Y (4 * 0))) B dX7_load_22 rfl rfl rfl cls5 1 (by decide) w158 rfl ?_
    refine g_callV (n := (4 * 0)) (ty := tyX2) (q := 28) (As := []) (st := []) B dX7_load_25 rfl (c_X2_becomeNew (l := xL X) (S := S) (by decide)) eX2_becomeNew w357 (by decide) rfl (cw_N (by decide) (S ((4 * 0)))) cls2 rfl rfl (Nat.le_of_ble_eq_true rfl) (g_k0 (fun Sy hSy => ?_))
    obtain ⟨hvSy, hfSy⟩ := hSy
    have e74 : Sy 74 = S 74 := hfSy 74 (by omega)
    have e73 : Sy 73 = S 73 := hfSy 73 (by omega)
    have her0 : ¬ (S 73 0 = 0 ∨ S 74 0 ≠ 78) := fun h => by
      have h2 : errF (S 74) (S 73 0) = 0 := if_pos h
      omega
    have hrt : rtE (S 74) (S 73 0) 120 1 = -1 := by
      have h2 : errF (S 74) (S 73 0) = rtE (S 74) (S 73 0) 120 1 := if_neg her0
      omega
    refine g_aload_n (q := 29) B dX7_load_28 rfl 0 rfl ?_
    refine g_get (n := 72) (ty := tyX7) (q := 32) (v := .ref (yA Y 75)) B dX7_load_29 rfl rfl rfl cls5 3 (by decide) w160 rfl ?_
    refine g_callV (n := 75) (ty := tyX1) (q := 35) (As := []) (st := []) B dX7_load_32 rfl (c_X1_forgetAll (l := xL X) (S := Sy)) eX1_forgetAll w369 (by decide) rfl rfl cls1 rfl rfl (Nat.le_of_ble_eq_true rfl) (g_0E ?_)
    refine g_aload_n (q := 36) B dX7_load_35 rfl 0 rfl ?_
    refine g_get (n := 72) (ty := tyX7) (q := 39) (v := .ref (yA Y 80)) B dX7_load_36 rfl ((us_ne _ _ (by omega)).trans rfl) rfl cls5 5 (by decide) w162 rfl ?_
    refine g_iconst (q := 40) B dX7_load_39 rfl ?_
    refine g_put (n := 80) (ty := tyX5) (q := 43) B dX7_load_40 rfl ((us_ne _ _ (by omega)).trans rfl) rfl cls3 1 (by decide) w151 rfl (by decide) (by decide) (Nat.le_of_ble_eq_true rfl) ((uq (Sy 80) 0 0)) rfl ?_
    refine g_aload_n (q := 44) B dX7_load_43 rfl 0 rfl ?_
    refine g_get (n := 72) (ty := tyX7) (q := 47) (v := .ref (yA Y 81)) B dX7_load_44 rfl ((us_ne _ _ (by omega)).trans ((us_ne _ _ (by omega)).trans rfl)) rfl cls5 6 (by decide) w163 rfl ?_
    refine g_iconst (q := 48) B dX7_load_47 rfl ?_
    refine g_put (n := 81) (ty := tyX5) (q := 51) B dX7_load_48 rfl ((us_ne _ _ (by omega)).trans ((us_ne _ _ (by omega)).trans rfl)) rfl cls3 1 (by decide) w151 rfl (by decide) (by decide) (Nat.le_of_ble_eq_true rfl) ((uq (Sy 81) 0 0)) rfl ?_
    refine g_aload_n (q := 52) B dX7_load_51 rfl 0 rfl ?_
    refine g_get (n := 72) (ty := tyX7) (q := 55) (v := .ref (yA Y 73)) B dX7_load_52 rfl ((us_ne _ _ (by omega)).trans ((us_ne _ _ (by omega)).trans ((us_ne _ _ (by omega)).trans rfl))) rfl cls5 0 (by decide) w157 rfl ?_
    refine g_aload_n (q := 56) B dX7_load_55 rfl 0 rfl ?_
    refine g_get (n := 72) (ty := tyX7) (q := 59) (v := .ref (yA Y (4 * 0))) B dX7_load_56 rfl ((us_ne _ _ (by omega)).trans ((us_ne _ _ (by omega)).trans ((us_ne _ _ (by omega)).trans rfl))) rfl cls5 1 (by decide) w158 rfl ?_
    have e73q : (us (us (us Sy 75 ((uq (Sy 75) 1 0))) 80 ((uq (Sy 80) 0 0))) 81 ((uq (Sy 81) 0 0))) 73 = S 73 := by simp only [us_ne _ _ (show (73 : Nat) ≠ 75 by decide), us_ne _ _ (show (73 : Nat) ≠ 80 by decide), us_ne _ _ (show (73 : Nat) ≠ 81 by decide)]; exact e73
    have e74q : (us (us (us Sy 75 ((uq (Sy 75) 1 0))) 80 ((uq (Sy 80) 0 0))) 81 ((uq (Sy 81) 0 0))) 74 = S 74 := by simp only [us_ne _ _ (show (74 : Nat) ≠ 75 by decide), us_ne _ _ (show (74 : Nat) ≠ 80 by decide), us_ne _ _ (show (74 : Nat) ≠ 81 by decide)]; exact e74
    have hzq : 0 ≤ (us (us (us Sy 75 ((uq (Sy 75) 1 0))) 80 ((uq (Sy 80) 0 0))) 81 ((uq (Sy 81) 0 0))) 73 0 ∧ (us (us (us Sy 75 ((uq (Sy 75) 1 0))) 80 ((uq (Sy 80) 0 0))) 81 ((uq (Sy 81) 0 0))) 73 0 ≤ 120 := by rw [e73q]; exact hz
    have htq : ∀ c : Int, 0 ≤ c → c < 120 → 0 ≤ (us (us (us Sy 75 ((uq (Sy 75) 1 0))) 80 ((uq (Sy 80) 0 0))) 81 ((uq (Sy 81) 0 0))) 74 c ∧ (us (us (us Sy 75 ((uq (Sy 75) 1 0))) 80 ((uq (Sy 80) 0 0))) 81 ((uq (Sy 81) 0 0))) 74 c ≤ 255 := by rw [e74q]; exact ht
    have hrq : rtE ((us (us (us Sy 75 ((uq (Sy 75) 1 0))) 80 ((uq (Sy 80) 0 0))) 81 ((uq (Sy 81) 0 0))) 74) ((us (us (us Sy 75 ((uq (Sy 75) 1 0))) 80 ((uq (Sy 80) 0 0))) 81 ((uq (Sy 81) 0 0))) 73 0) 120 1 = -1 := by rw [e73q, e74q]; exact hrt
    have hvq : vw ((us (us (us Sy 75 ((uq (Sy 75) 1 0))) 80 ((uq (Sy 80) 0 0))) 81 ((uq (Sy 81) 0 0)))) 0 = newF (vw S 0) := hvSy
    have hwq : wf (vw ((us (us (us Sy 75 ((uq (Sy 75) 1 0))) 80 ((uq (Sy 80) 0 0))) 81 ((uq (Sy 81) 0 0)))) 0) := by rw [hvq]; exact wf_new _
    refine g_callV (n := 73) (ty := tyX6) (q := 62) (As := [.ref (yA Y (4 * 0))]) (st := []) B dX7_load_59 rfl (c_X6_performOn (l := xL X) (S := (us (us (us Sy 75 ((uq (Sy 75) 1 0))) 80 ((uq (Sy 80) 0 0))) 81 ((uq (Sy 81) 0 0)))) hzq htq (by decide) hwq hrq) eX6_performOn w373 (by decide) ((us_ne _ _ (by omega)).trans ((us_ne _ _ (by omega)).trans ((us_ne _ _ (by omega)).trans rfl))) rfl cls4 rfl rfl (Nat.le_of_ble_eq_true rfl) (g_kV (fun Sz hSz => ?_))
    obtain ⟨hvSz, hfSz⟩ := hSz
    rw [e73q, e74q, hvq] at hvSz
    refine gx_iret B V dX7_load_62 ?_
    have e0 : cd_e (errF (S 74) (S 73 0)) = 0 := by unfold cd_e; (repeat' split) <;> omega
    have ev : rtB (S 74) (S 73 0) 120 1 (newF (vw S 0)) = rtB ((us (us (us Sy 75 ((uq (Sy 75) 1 0))) 80 ((uq (Sy 80) 0 0))) 81 ((uq (Sy 81) 0 0))) 74) ((us (us (us Sy 75 ((uq (Sy 75) 1 0))) 80 ((uq (Sy 80) 0 0))) 81 ((uq (Sy 81) 0 0))) 73 0) 120 1 (vw (us (us (us Sy 75 ((uq (Sy 75) 1 0))) 80 ((uq (Sy 80) 0 0))) 81 ((uq (Sy 81) 0 0))) 0) := by rw [e73q, e74q, hvq]
    exact ⟨e0, by rw [ev], ⟨hvSz, ⟨(congrFun (hfSz 75 (by omega)) 0).trans (congrFun (hfSy 75 (by omega)) 0), (congrFun (hfSz 75 (by omega)) 1).trans rfl⟩, ⟨(congrFun (hfSz 80 (by omega)) 0).trans rfl, (congrFun (hfSz 81 (by omega)) 0).trans rfl⟩, fun m h4 h5 h80 h81 => by rw [hfSz m (by omega)]; simp only [us_ne _ _ h5, us_ne _ _ h80, us_ne _ _ h81]; exact hfSy m (by omega)⟩⟩
  · refine gx_throw (cls := "java/lang/IllegalStateException") (text := "the text is not a necklace") B V gEx_S (by decide) (by decide) dX7_load_11 dX7_load_14 dX7_load_15 dX7_load_17 dX7_load_20 ?_
    exact ⟨0, (show cd_e (errF (S 74) (S 73 0)) = ((0 : Nat) : Int) + 1 by unfold cd_e; (repeat' split) <;> omega), rfl, rfl⟩
set_option maxHeartbeats 4000000 in
theorem c_X7_about {Y : gY} {l : Launch} {S : SS} (hst : l.stackTraces = false) (hw : wf (vw S 0)) (u : Int) (hu : rI u) : gV Y l mX7_about S [.ref (yA Y 72), .int (iI u)] (xO (cd_about u) (vl_about (vw S 0) u) (fun S' => S' = S)) (xE2 (cd_about u) [eA] (fun S' => S' = S)) := by
  refine gV_of hst (by decide) (Nat.le_of_ble_eq_true rfl) ?_
  intro X hXl B V
  obtain ⟨hu0, hu1⟩ := hu
  obtain ⟨⟨hn0, hn16⟩, ⟨hb0, hb1⟩, ⟨hm0, hm1⟩, ⟨hs0, hs1⟩, ⟨hc0, hc1⟩, hct, hkw, how, hun⟩ := wfS hw
  show gW Y X S 0 [(0, .ref (yA Y 72)), (1, .int (iI u))] []
  refine g_iload_n (q := 1) B dX7_about_0 rfl 1 rfl ?_
  rcases (show u = 0 ∨ u = 1 ∨ u = 2 ∨ u = 3 ∨ u = 4 ∨ u = 5 ∨ u = 6 ∨ u = 7 ∨ u = 8 ∨ u = 9 ∨ (u ≠ 0 ∧ u ≠ 1 ∧ u ≠ 2 ∧ u ≠ 3 ∧ u ≠ 4 ∧ u ≠ 5 ∧ u ≠ 6 ∧ u ≠ 7 ∧ u ≠ 8 ∧ u ≠ 9) by omega) with cq1 | cq1 | cq1 | cq1 | cq1 | cq1 | cq1 | cq1 | cq1 | cq1 | cq1
  · refine g_tsIn (q := 56) B 0 dX7_about_1 cq1 ⟨by decide, by decide, by decide, by decide⟩ rfl (by decide) ?_
    refine g_aload_n (q := 57) B dX7_about_56 rfl 0 rfl ?_
    refine g_get (n := 72) (ty := tyX7) (q := 60) (v := .ref (yA Y (4 * 0))) B dX7_about_57 rfl rfl rfl cls5 1 (by decide) w158 rfl ?_
    refine g_get (n := (4 * 0)) (ty := tyX2) (q := 63) (v := .int (iI (S ((4 * 0)) 0))) B dX7_about_60 rfl rfl (cw_N (by decide) (S ((4 * 0)))) cls2 0 (by decide) w67 rfl ?_
    refine gx_iret B V dX7_about_63 ?_
    have e0 : cd_about u = 0 := by unfold cd_about; (repeat' split) <;> omega
    have ev : vl_about (vw S 0) u = S ((4 * 0)) 0 := by unfold vl_about; (repeat' split) <;> first | omega | rfl
    exact ⟨e0, by rw [ev], rfl⟩
  · refine g_tsIn (q := 64) B 1 dX7_about_1 cq1 ⟨by decide, by decide, by decide, by decide⟩ rfl (by decide) ?_
    refine g_aload_n (q := 65) B dX7_about_64 rfl 0 rfl ?_
    refine g_get (n := 72) (ty := tyX7) (q := 68) (v := .ref (yA Y (4 * 0))) B dX7_about_65 rfl rfl rfl cls5 1 (by decide) w158 rfl ?_
    refine g_get (n := (4 * 0)) (ty := tyX2) (q := 71) (v := .int (iI (S ((4 * 0)) 1))) B dX7_about_68 rfl rfl (cw_N (by decide) (S ((4 * 0)))) cls2 1 (by decide) w70 rfl ?_
    refine gx_iret B V dX7_about_71 ?_
    have e0 : cd_about u = 0 := by unfold cd_about; (repeat' split) <;> omega
    have ev : vl_about (vw S 0) u = S ((4 * 0)) 1 := by unfold vl_about; (repeat' split) <;> first | omega | rfl
    exact ⟨e0, by rw [ev], rfl⟩
  · refine g_tsIn (q := 72) B 2 dX7_about_1 cq1 ⟨by decide, by decide, by decide, by decide⟩ rfl (by decide) ?_
    refine g_aload_n (q := 73) B dX7_about_72 rfl 0 rfl ?_
    refine g_get (n := 72) (ty := tyX7) (q := 76) (v := .ref (yA Y (4 * 0))) B dX7_about_73 rfl rfl rfl cls5 1 (by decide) w158 rfl ?_
    refine g_callV (n := (4 * 0)) (ty := tyX2) (q := 79) (As := []) (st := []) B dX7_about_76 rfl (c_X2_cutCount (l := xL X) (S := S) (by decide) (wf.q hw)) eX2_cutCount w506 (by decide) rfl (cw_N (by decide) (S ((4 * 0)))) cls2 rfl rfl (Nat.le_of_ble_eq_true rfl) (g_kE ?_)
    refine gx_iret B V dX7_about_79 ?_
    have e0 : cd_about u = 0 := by unfold cd_about; (repeat' split) <;> omega
    have ev : vl_about (vw S 0) u = (cn (S (4 * 0) 5).toNat 16 : Nat) := by unfold vl_about; (repeat' split) <;> first | omega | rfl
    exact ⟨e0, by rw [ev], rfl⟩
  · refine g_tsIn (q := 80) B 3 dX7_about_1 cq1 ⟨by decide, by decide, by decide, by decide⟩ rfl (by decide) ?_
    refine g_aload_n (q := 81) B dX7_about_80 rfl 0 rfl ?_
    refine g_get (n := 72) (ty := tyX7) (q := 84) (v := .ref (yA Y (4 * 0))) B dX7_about_81 rfl rfl rfl cls5 1 (by decide) w158 rfl ?_
    refine g_callV (n := (4 * 0)) (ty := tyX2) (q := 87) (As := []) (st := []) B dX7_about_84 rfl (c_X2_runs (l := xL X) (S := S) (by decide) (wf.q hw)) eX2_runs w510 (by decide) rfl (cw_N (by decide) (S ((4 * 0)))) cls2 rfl rfl (Nat.le_of_ble_eq_true rfl) (g_kE ?_)
    have := runsF_in (vw S 0)
    refine gx_iret B V dX7_about_87 ?_
    have e0 : cd_about u = 0 := by unfold cd_about; (repeat' split) <;> omega
    have ev : vl_about (vw S 0) u = runsF (vw S 0) := by unfold vl_about; (repeat' split) <;> first | omega | rfl
    exact ⟨e0, by rw [ev], rfl⟩
  · refine g_tsIn (q := 88) B 4 dX7_about_1 cq1 ⟨by decide, by decide, by decide, by decide⟩ rfl (by decide) ?_
    refine g_aload_n (q := 89) B dX7_about_88 rfl 0 rfl ?_
    refine g_get (n := 72) (ty := tyX7) (q := 92) (v := .ref (yA Y (4 * 0))) B dX7_about_89 rfl rfl rfl cls5 1 (by decide) w158 rfl ?_
    refine g_callV (n := (4 * 0)) (ty := tyX2) (q := 95) (As := []) (st := []) B dX7_about_92 rfl (c_X2_gap (l := xL X) (S := S) (by decide) hw) eX2_gap w511 (by decide) rfl (cw_N (by decide) (S ((4 * 0)))) cls2 rfl rfl (Nat.le_of_ble_eq_true rfl) (g_kE ?_)
    have := gapF_in hw
    refine gx_iret B V dX7_about_95 ?_
    have e0 : cd_about u = 0 := by unfold cd_about; (repeat' split) <;> omega
    have ev : vl_about (vw S 0) u = gapF (vw S 0) := by unfold vl_about; (repeat' split) <;> first | omega | rfl
    exact ⟨e0, by rw [ev], rfl⟩
  · refine g_tsIn (q := 96) B 5 dX7_about_1 cq1 ⟨by decide, by decide, by decide, by decide⟩ rfl (by decide) ?_
    refine g_aload_n (q := 97) B dX7_about_96 rfl 0 rfl ?_
    refine g_get (n := 72) (ty := tyX7) (q := 100) (v := .ref (yA Y (4 * 0))) B dX7_about_97 rfl rfl rfl cls5 1 (by decide) w158 rfl ?_
    refine g_callV (n := (4 * 0)) (ty := tyX2) (q := 103) (As := []) (st := []) B dX7_about_100 rfl (c_X2_isFair (l := xL X) (S := S) (by decide) hw) eX2_isFair w530 (by decide) rfl (cw_N (by decide) (S ((4 * 0)))) cls2 rfl rfl (Nat.le_of_ble_eq_true rfl) (g_kE ?_)
    refine g_ifb_eq (t := 110) (q := 106) B dX7_about_103 (by decide) rfl (fun cq103 => ?_) (fun cq103 => ?_)
    · refine g_iconst (q := 111) B dX7_about_110 rfl ?_
      refine gx_iret B V dX7_about_111 ?_
      have e0 : cd_about u = 0 := by unfold cd_about; (repeat' split) <;> omega
      have ev : vl_about (vw S 0) u = 0 := by unfold vl_about; (repeat' split) <;> first | omega | rfl
      exact ⟨e0, by rw [ev], rfl⟩
    · refine g_iconst (q := 107) B dX7_about_106 rfl ?_
      refine g_goto (q := 111) B dX7_about_107 (by decide) ?_
      refine gx_iret B V dX7_about_111 ?_
      have e0 : cd_about u = 0 := by unfold cd_about; (repeat' split) <;> omega
      have ev : vl_about (vw S 0) u = 1 := by unfold vl_about; (repeat' split) <;> first | omega | rfl
      exact ⟨e0, by rw [ev], rfl⟩
  · refine g_tsIn (q := 112) B 6 dX7_about_1 cq1 ⟨by decide, by decide, by decide, by decide⟩ rfl (by decide) ?_
    refine g_aload_n (q := 113) B dX7_about_112 rfl 0 rfl ?_
    refine g_get (n := 72) (ty := tyX7) (q := 116) (v := .ref (yA Y (4 * 0))) B dX7_about_113 rfl rfl rfl cls5 1 (by decide) w158 rfl ?_
    refine g_get (n := (4 * 0)) (ty := tyX2) (q := 119) (v := .int (iI (S ((4 * 0)) 2))) B dX7_about_116 rfl rfl (cw_N (by decide) (S ((4 * 0)))) cls2 2 (by decide) w72 rfl ?_
    refine gx_iret B V dX7_about_119 ?_
    have e0 : cd_about u = 0 := by unfold cd_about; (repeat' split) <;> omega
    have ev : vl_about (vw S 0) u = S ((4 * 0)) 2 := by unfold vl_about; (repeat' split) <;> first | omega | rfl
    exact ⟨e0, by rw [ev], rfl⟩
  · refine g_tsIn (q := 120) B 7 dX7_about_1 cq1 ⟨by decide, by decide, by decide, by decide⟩ rfl (by decide) ?_
    refine g_aload_n (q := 121) B dX7_about_120 rfl 0 rfl ?_
    refine g_get (n := 72) (ty := tyX7) (q := 124) (v := .ref (yA Y (4 * 0))) B dX7_about_121 rfl rfl rfl cls5 1 (by decide) w158 rfl ?_
    refine g_callV (n := (4 * 0)) (ty := tyX2) (q := 127) (As := []) (st := []) B dX7_about_124 rfl (c_X2_placesOfNobody (l := xL X) (S := S) (by decide) hw) eX2_placesOfNobody w539 (by decide) rfl (cw_N (by decide) (S ((4 * 0)))) cls2 rfl rfl (Nat.le_of_ble_eq_true rfl) (g_kE ?_)
    have := nobF_in hw
    refine gx_iret B V dX7_about_127 ?_
    have e0 : cd_about u = 0 := by unfold cd_about; (repeat' split) <;> omega
    have ev : vl_about (vw S 0) u = nobF (vw S 0) := by unfold vl_about; (repeat' split) <;> first | omega | rfl
    exact ⟨e0, by rw [ev], rfl⟩
  · refine g_tsIn (q := 128) B 8 dX7_about_1 cq1 ⟨by decide, by decide, by decide, by decide⟩ rfl (by decide) ?_
    refine g_aload_n (q := 129) B dX7_about_128 rfl 0 rfl ?_
    refine g_get (n := 72) (ty := tyX7) (q := 132) (v := .ref (yA Y (4 * 0))) B dX7_about_129 rfl rfl rfl cls5 1 (by decide) w158 rfl ?_
    refine g_get (n := (4 * 0)) (ty := tyX2) (q := 135) (v := .int (iI (S ((4 * 0)) 3))) B dX7_about_132 rfl rfl (cw_N (by decide) (S ((4 * 0)))) cls2 3 (by decide) w74 rfl ?_
    refine gx_iret B V dX7_about_135 ?_
    have e0 : cd_about u = 0 := by unfold cd_about; (repeat' split) <;> omega
    have ev : vl_about (vw S 0) u = S ((4 * 0)) 3 := by unfold vl_about; (repeat' split) <;> first | omega | rfl
    exact ⟨e0, by rw [ev], rfl⟩
  · refine g_tsIn (q := 136) B 9 dX7_about_1 cq1 ⟨by decide, by decide, by decide, by decide⟩ rfl (by decide) ?_
    refine g_aload_n (q := 137) B dX7_about_136 rfl 0 rfl ?_
    refine g_get (n := 72) (ty := tyX7) (q := 140) (v := .ref (yA Y (4 * 0))) B dX7_about_137 rfl rfl rfl cls5 1 (by decide) w158 rfl ?_
    refine g_get (n := (4 * 0)) (ty := tyX2) (q := 143) (v := .int (iI (S ((4 * 0)) 4))) B dX7_about_140 rfl rfl (cw_N (by decide) (S ((4 * 0)))) cls2 4 (by decide) w76 rfl ?_
    refine gx_iret B V dX7_about_143 ?_
    have e0 : cd_about u = 0 := by unfold cd_about; (repeat' split) <;> omega
    have ev : vl_about (vw S 0) u = S ((4 * 0)) 4 := by unfold vl_about; (repeat' split) <;> first | omega | rfl
    exact ⟨e0, by rw [ev], rfl⟩
  · refine g_tsOut (q := 144) B dX7_about_1 (by omega) ⟨by omega, by omega⟩ (by decide) ?_
    refine gx_throw (cls := "java/lang/IllegalArgumentException") (text := "what is not 0 to 9") B V gEx_A (by decide) (by decide) dX7_about_144 dX7_about_147 dX7_about_148 dX7_about_150 dX7_about_153 ?_
    exact ⟨0, (show cd_about u = ((0 : Nat) : Int) + 1 by unfold cd_about; (repeat' split) <;> omega), rfl, rfl⟩
set_option maxHeartbeats 4000000 in
theorem c_X7_jewelOf {Y : gY} {l : Launch} {S : SS} (hst : l.stackTraces = false) (hw : wf (vw S 0)) (j : Int) (hj : rI j) (u : Int) (hu : rI u) : gV Y l mX7_jewelOf S [.ref (yA Y 72), .int (iI j), .int (iI u)] (xO (cd_jewelOf (vw S 0) j u) (vl_jewelOf (vw S 0) j u) (fun S' => S' = S)) (xE2 (cd_jewelOf (vw S 0) j u) [eI, eA] (fun S' => S' = S)) := by
  refine gV_of hst (by decide) (Nat.le_of_ble_eq_true rfl) ?_
  intro X hXl B V
  obtain ⟨hj0, hj1⟩ := hj
  obtain ⟨hu0, hu1⟩ := hu
  obtain ⟨⟨hn0, hn16⟩, ⟨hb0, hb1⟩, ⟨hm0, hm1⟩, ⟨hs0, hs1⟩, ⟨hc0, hc1⟩, hct, hkw, how, hun⟩ := wfS hw
  have m0 : vw S 0 0 = S (4 * 0) 0 := rfl
  show gW Y X S 0 [(0, .ref (yA Y 72)), (1, .int (iI j)), (2, .int (iI u))] []
  refine g_aload_n (q := 1) B dX7_jewelOf_0 rfl 0 rfl ?_
  refine g_get (n := 72) (ty := tyX7) (q := 4) (v := .ref (yA Y (4 * 0))) B dX7_jewelOf_1 rfl rfl rfl cls5 1 (by decide) w158 rfl ?_
  refine g_iload_n (q := 5) B dX7_jewelOf_4 rfl 1 rfl ?_
  refine g_callV (n := (4 * 0)) (ty := tyX2) (q := 8) (As := [.int (iI j)]) (st := []) B dX7_jewelOf_5 rfl (c_X2_hasJewel (l := xL X) (S := S) (by decide) hw j ⟨by omega, by omega⟩) eX2_hasJewel w549 (by decide) rfl (cw_N (by decide) (S ((4 * 0)))) cls2 rfl rfl (Nat.le_of_ble_eq_true rfl) (g_kE ?_)
  refine g_ifb_ne (t := 21) (q := 11) B dX7_jewelOf_8 (by decide) rfl (fun cq8 => ?_) (fun cq8 => ?_)
  · refine g_iload_n (q := 22) B dX7_jewelOf_21 rfl 2 rfl ?_
    rcases (show u = 0 ∨ u = 1 ∨ u = 2 ∨ (u ≠ 0 ∧ u ≠ 1 ∧ u ≠ 2) by omega) with cq22 | cq22 | cq22 | cq22
    · refine g_tsIn (q := 48) B 0 dX7_jewelOf_22 cq22 ⟨by decide, by decide, by decide, by decide⟩ rfl (by decide) ?_
      refine g_aload_n (q := 49) B dX7_jewelOf_48 rfl 0 rfl ?_
      refine g_get (n := 72) (ty := tyX7) (q := 52) (v := .ref (yA Y (4 * 0))) B dX7_jewelOf_49 rfl rfl rfl cls5 1 (by decide) w158 rfl ?_
      refine g_iload_n (q := 53) B dX7_jewelOf_52 rfl 1 rfl ?_
      refine g_callV (n := (4 * 0)) (ty := tyX2) (q := 56) (As := [.int (iI j)]) (st := []) B dX7_jewelOf_53 rfl (c_X2_kindOf (l := xL X) (S := S) (by decide) j (by omega) (by omega)) eX2_kindOf w566 (by decide) rfl (cw_N (by decide) (S ((4 * 0)))) cls2 rfl rfl (Nat.le_of_ble_eq_true rfl) (g_kE ?_)
      refine gx_iret B V dX7_jewelOf_56 ?_
      have e0 : cd_jewelOf (vw S 0) j u = 0 := by unfold cd_jewelOf; (repeat' split) <;> omega
      have ev : vl_jewelOf (vw S 0) j u = S (4 * 0 + 1) j := by unfold vl_jewelOf; (repeat' split) <;> first | omega | rfl | exact vw_k S 0 (by omega) (by omega) | exact vw_w S 0 (by omega) (by omega)
      exact ⟨e0, by rw [ev], rfl⟩
    · refine g_tsIn (q := 57) B 1 dX7_jewelOf_22 cq22 ⟨by decide, by decide, by decide, by decide⟩ rfl (by decide) ?_
      refine g_aload_n (q := 58) B dX7_jewelOf_57 rfl 0 rfl ?_
      refine g_get (n := 72) (ty := tyX7) (q := 61) (v := .ref (yA Y (4 * 0))) B dX7_jewelOf_58 rfl rfl rfl cls5 1 (by decide) w158 rfl ?_
      refine g_iload_n (q := 62) B dX7_jewelOf_61 rfl 1 rfl ?_
      refine g_callV (n := (4 * 0)) (ty := tyX2) (q := 65) (As := [.int (iI j)]) (st := []) B dX7_jewelOf_62 rfl (c_X2_weightOf (l := xL X) (S := S) (by decide) j (by omega) (by omega)) eX2_weightOf w567 (by decide) rfl (cw_N (by decide) (S ((4 * 0)))) cls2 rfl rfl (Nat.le_of_ble_eq_true rfl) (g_kE ?_)
      refine gx_iret B V dX7_jewelOf_65 ?_
      have e0 : cd_jewelOf (vw S 0) j u = 0 := by unfold cd_jewelOf; (repeat' split) <;> omega
      have ev : vl_jewelOf (vw S 0) j u = S (4 * 0 + 2) j := by unfold vl_jewelOf; (repeat' split) <;> first | omega | rfl | exact vw_k S 0 (by omega) (by omega) | exact vw_w S 0 (by omega) (by omega)
      exact ⟨e0, by rw [ev], rfl⟩
    · refine g_tsIn (q := 66) B 2 dX7_jewelOf_22 cq22 ⟨by decide, by decide, by decide, by decide⟩ rfl (by decide) ?_
      refine g_aload_n (q := 67) B dX7_jewelOf_66 rfl 0 rfl ?_
      refine g_get (n := 72) (ty := tyX7) (q := 70) (v := .ref (yA Y (4 * 0))) B dX7_jewelOf_67 rfl rfl rfl cls5 1 (by decide) w158 rfl ?_
      refine g_iload_n (q := 71) B dX7_jewelOf_70 rfl 1 rfl ?_
      refine g_callV (n := (4 * 0)) (ty := tyX2) (q := 74) (As := [.int (iI j)]) (st := []) B dX7_jewelOf_71 rfl (c_X2_placeWith (l := xL X) (S := S) (by decide) hw j (by omega) (by omega)) eX2_placeWith w568 (by decide) rfl (cw_N (by decide) (S ((4 * 0)))) cls2 rfl rfl (Nat.le_of_ble_eq_true rfl) (g_kE ?_)
      refine gx_iret B V dX7_jewelOf_74 ?_
      have e0 : cd_jewelOf (vw S 0) j u = 0 := by unfold cd_jewelOf; (repeat' split) <;> omega
      have ev : vl_jewelOf (vw S 0) j u = (j - S (4 * 0) 1 + S (4 * 0) 0) % S (4 * 0) 0 := by unfold vl_jewelOf; (repeat' split) <;> first | omega | rfl | exact vw_k S 0 (by omega) (by omega) | exact vw_w S 0 (by omega) (by omega)
      exact ⟨e0, by rw [ev], rfl⟩
    · refine g_tsOut (q := 75) B dX7_jewelOf_22 (by omega) ⟨by omega, by omega⟩ (by decide) ?_
      refine gx_throw (cls := "java/lang/IllegalArgumentException") (text := "what is not 0 to 2") B V gEx_A (by decide) (by decide) dX7_jewelOf_75 dX7_jewelOf_78 dX7_jewelOf_79 dX7_jewelOf_81 dX7_jewelOf_84 ?_
      exact ⟨1, (show cd_jewelOf (vw S 0) j u = ((1 : Nat) : Int) + 1 by unfold cd_jewelOf; (repeat' split) <;> omega), rfl, rfl⟩
  · refine gx_throw (cls := "java/lang/IndexOutOfBoundsException") (text := "no such jewel") B V gEx_I (by decide) (by decide) dX7_jewelOf_11 dX7_jewelOf_14 dX7_jewelOf_15 dX7_jewelOf_17 dX7_jewelOf_20 ?_
    exact ⟨0, (show cd_jewelOf (vw S 0) j u = ((0 : Nat) : Int) + 1 by unfold cd_jewelOf; (repeat' split) <;> omega), rfl, rfl⟩
set_option maxHeartbeats 4000000 in
theorem c_X7_placeOf {Y : gY} {l : Launch} {S : SS} (hst : l.stackTraces = false) (hw : wf (vw S 0)) (p : Int) (hp : rI p) (u : Int) (hu : rI u) : gV Y l mX7_placeOf S [.ref (yA Y 72), .int (iI p), .int (iI u)] (xO (cd_placeOf (vw S 0) p u) (vl_placeOf (vw S 0) p u) (fun S' => S' = S)) (xE2 (cd_placeOf (vw S 0) p u) [eI, eA] (fun S' => S' = S)) := by
  refine gV_of hst (by decide) (Nat.le_of_ble_eq_true rfl) ?_
  intro X hXl B V
  obtain ⟨hp0, hp1⟩ := hp
  obtain ⟨hu0, hu1⟩ := hu
  obtain ⟨⟨hn0, hn16⟩, ⟨hb0, hb1⟩, ⟨hm0, hm1⟩, ⟨hs0, hs1⟩, ⟨hc0, hc1⟩, hct, hkw, how, hun⟩ := wfS hw
  have m0 : vw S 0 0 = S (4 * 0) 0 := rfl
  have m5 : vw S 0 5 = S (4 * 0) 5 := rfl
  show gW Y X S 0 [(0, .ref (yA Y 72)), (1, .int (iI p)), (2, .int (iI u))] []
  refine g_aload_n (q := 1) B dX7_placeOf_0 rfl 0 rfl ?_
  refine g_get (n := 72) (ty := tyX7) (q := 4) (v := .ref (yA Y (4 * 0))) B dX7_placeOf_1 rfl rfl rfl cls5 1 (by decide) w158 rfl ?_
  refine g_iload_n (q := 5) B dX7_placeOf_4 rfl 1 rfl ?_
  refine g_callV (n := (4 * 0)) (ty := tyX2) (q := 8) (As := [.int (iI p)]) (st := []) B dX7_placeOf_5 rfl (c_X2_hasPlace (l := xL X) (S := S) (by decide) hw p ⟨by omega, by omega⟩) eX2_hasPlace w581 (by decide) rfl (cw_N (by decide) (S ((4 * 0)))) cls2 rfl rfl (Nat.le_of_ble_eq_true rfl) (g_kE ?_)
  refine g_ifb_ne (t := 21) (q := 11) B dX7_placeOf_8 (by decide) rfl (fun cq8 => ?_) (fun cq8 => ?_)
  · refine g_iload_n (q := 22) B dX7_placeOf_21 rfl 2 rfl ?_
    rcases (show u = 0 ∨ u = 1 ∨ u = 2 ∨ u = 3 ∨ (u ≠ 0 ∧ u ≠ 1 ∧ u ≠ 2 ∧ u ≠ 3) by omega) with cq22 | cq22 | cq22 | cq22 | cq22
    · refine g_tsIn (q := 52) B 0 dX7_placeOf_22 cq22 ⟨by decide, by decide, by decide, by decide⟩ rfl (by decide) ?_
      refine g_aload_n (q := 53) B dX7_placeOf_52 rfl 0 rfl ?_
      refine g_get (n := 72) (ty := tyX7) (q := 56) (v := .ref (yA Y (4 * 0))) B dX7_placeOf_53 rfl rfl rfl cls5 1 (by decide) w158 rfl ?_
      refine g_iload_n (q := 57) B dX7_placeOf_56 rfl 1 rfl ?_
      refine g_callV (n := (4 * 0)) (ty := tyX2) (q := 60) (As := [.int (iI p)]) (st := []) B dX7_placeOf_57 rfl (c_X2_jewelAt (l := xL X) (S := S) (by decide) hw p (by omega) (by omega)) eX2_jewelAt w586 (by decide) rfl (cw_N (by decide) (S ((4 * 0)))) cls2 rfl rfl (Nat.le_of_ble_eq_true rfl) (g_kE ?_)
      refine gx_iret B V dX7_placeOf_60 ?_
      have e0 : cd_placeOf (vw S 0) p u = 0 := by unfold cd_placeOf; (repeat' split) <;> omega
      have ev : vl_placeOf (vw S 0) p u = jatF (vw S 0) p := by unfold vl_placeOf; rw [m5]; (repeat' split) <;> first | omega | rfl | exact vw_o S 0 (by omega) (by omega) | (exfalso; contradiction)
      exact ⟨e0, by rw [ev], rfl⟩
    · refine g_tsIn (q := 61) B 1 dX7_placeOf_22 cq22 ⟨by decide, by decide, by decide, by decide⟩ rfl (by decide) ?_
      refine g_aload_n (q := 62) B dX7_placeOf_61 rfl 0 rfl ?_
      refine g_get (n := 72) (ty := tyX7) (q := 65) (v := .ref (yA Y (4 * 0))) B dX7_placeOf_62 rfl rfl rfl cls5 1 (by decide) w158 rfl ?_
      refine g_iload_n (q := 66) B dX7_placeOf_65 rfl 1 rfl ?_
      refine g_callV (n := (4 * 0)) (ty := tyX2) (q := 69) (As := [.int (iI p)]) (st := []) B dX7_placeOf_66 rfl (c_X2_ownerAt (l := xL X) (S := S) (by decide) p (by omega) (by omega)) eX2_ownerAt w587 (by decide) rfl (cw_N (by decide) (S ((4 * 0)))) cls2 rfl rfl (Nat.le_of_ble_eq_true rfl) (g_kE ?_)
      refine gx_iret B V dX7_placeOf_69 ?_
      have e0 : cd_placeOf (vw S 0) p u = 0 := by unfold cd_placeOf; (repeat' split) <;> omega
      have ev : vl_placeOf (vw S 0) p u = S (4 * 0 + 3) p := by unfold vl_placeOf; rw [m5]; (repeat' split) <;> first | omega | rfl | exact vw_o S 0 (by omega) (by omega) | (exfalso; contradiction)
      exact ⟨e0, by rw [ev], rfl⟩
    · refine g_tsIn (q := 70) B 2 dX7_placeOf_22 cq22 ⟨by decide, by decide, by decide, by decide⟩ rfl (by decide) ?_
      refine g_aload_n (q := 71) B dX7_placeOf_70 rfl 0 rfl ?_
      refine g_get (n := 72) (ty := tyX7) (q := 74) (v := .ref (yA Y (4 * 0))) B dX7_placeOf_71 rfl rfl rfl cls5 1 (by decide) w158 rfl ?_
      refine g_iload_n (q := 75) B dX7_placeOf_74 rfl 1 rfl ?_
      refine g_callV (n := (4 * 0)) (ty := tyX2) (q := 78) (As := [.int (iI p)]) (st := []) B dX7_placeOf_75 rfl (c_X2_runAt (l := xL X) (S := S) (by decide) hc0 hc1 p (by omega) (by omega)) eX2_runAt w588 (by decide) rfl (cw_N (by decide) (S ((4 * 0)))) cls2 rfl rfl (Nat.le_of_ble_eq_true rfl) (g_kE ?_)
      have := runF_in (vw S 0) (p := p) (by omega)
      refine gx_iret B V dX7_placeOf_78 ?_
      have e0 : cd_placeOf (vw S 0) p u = 0 := by unfold cd_placeOf; (repeat' split) <;> omega
      have ev : vl_placeOf (vw S 0) p u = runF (vw S 0) p := by unfold vl_placeOf; rw [m5]; (repeat' split) <;> first | omega | rfl | exact vw_o S 0 (by omega) (by omega) | (exfalso; contradiction)
      exact ⟨e0, by rw [ev], rfl⟩
    · refine g_tsIn (q := 79) B 3 dX7_placeOf_22 cq22 ⟨by decide, by decide, by decide, by decide⟩ rfl (by decide) ?_
      refine g_aload_n (q := 80) B dX7_placeOf_79 rfl 0 rfl ?_
      refine g_get (n := 72) (ty := tyX7) (q := 83) (v := .ref (yA Y (4 * 0))) B dX7_placeOf_80 rfl rfl rfl cls5 1 (by decide) w158 rfl ?_
      refine g_iload_n (q := 84) B dX7_placeOf_83 rfl 1 rfl ?_
      refine g_callV (n := (4 * 0)) (ty := tyX2) (q := 87) (As := [.int (iI p)]) (st := []) B dX7_placeOf_84 rfl (c_X2_isCut (l := xL X) (S := S) (by decide) hw p (by omega) (by omega)) eX2_isCut w589 (by decide) rfl (cw_N (by decide) (S ((4 * 0)))) cls2 rfl rfl (Nat.le_of_ble_eq_true rfl) (g_kE ?_)
      refine g_ifb_eq (t := 94) (q := 90) B dX7_placeOf_87 (by decide) rfl (fun cq87 => ?_) (fun cq87 => ?_)
      · refine g_iconst (q := 95) B dX7_placeOf_94 rfl ?_
        refine gx_iret B V dX7_placeOf_95 ?_
        have e0 : cd_placeOf (vw S 0) p u = 0 := by unfold cd_placeOf; (repeat' split) <;> omega
        have ev : vl_placeOf (vw S 0) p u = 0 := by unfold vl_placeOf; rw [m5]; (repeat' split) <;> first | omega | rfl | exact vw_o S 0 (by omega) (by omega) | (exfalso; contradiction)
        exact ⟨e0, by rw [ev], rfl⟩
      · refine g_iconst (q := 91) B dX7_placeOf_90 rfl ?_
        refine g_goto (q := 95) B dX7_placeOf_91 (by decide) ?_
        refine gx_iret B V dX7_placeOf_95 ?_
        have e0 : cd_placeOf (vw S 0) p u = 0 := by unfold cd_placeOf; (repeat' split) <;> omega
        have ev : vl_placeOf (vw S 0) p u = 1 := by unfold vl_placeOf; rw [m5]; (repeat' split) <;> first | omega | rfl | exact vw_o S 0 (by omega) (by omega) | (exfalso; contradiction)
        exact ⟨e0, by rw [ev], rfl⟩
    · refine g_tsOut (q := 96) B dX7_placeOf_22 (by omega) ⟨by omega, by omega⟩ (by decide) ?_
      refine gx_throw (cls := "java/lang/IllegalArgumentException") (text := "what is not 0 to 3") B V gEx_A (by decide) (by decide) dX7_placeOf_96 dX7_placeOf_99 dX7_placeOf_100 dX7_placeOf_102 dX7_placeOf_105 ?_
      exact ⟨1, (show cd_placeOf (vw S 0) p u = ((1 : Nat) : Int) + 1 by unfold cd_placeOf; (repeat' split) <;> omega), rfl, rfl⟩
  · refine gx_throw (cls := "java/lang/IndexOutOfBoundsException") (text := "no such place") B V gEx_I (by decide) (by decide) dX7_placeOf_11 dX7_placeOf_14 dX7_placeOf_15 dX7_placeOf_17 dX7_placeOf_20 ?_
    exact ⟨0, (show cd_placeOf (vw S 0) p u = ((0 : Nat) : Int) + 1 by unfold cd_placeOf; (repeat' split) <;> omega), rfl, rfl⟩
set_option maxHeartbeats 4000000 in
theorem c_X7_runOf {Y : gY} {l : Launch} {S : SS} (hst : l.stackTraces = false) (hw : wf (vw S 0)) (r : Int) (hr : rI r) (u : Int) (hu : rI u) : gV Y l mX7_runOf S [.ref (yA Y 72), .int (iI r), .int (iI u)] (xO (cd_runOf (vw S 0) r u) (vl_runOf (vw S 0) r u) (fun S' => S' = S)) (xE2 (cd_runOf (vw S 0) r u) [eI, eA] (fun S' => S' = S)) := by
  refine gV_of hst (by decide) (Nat.le_of_ble_eq_true rfl) ?_
  intro X hXl B V
  obtain ⟨hr0, hr1⟩ := hr
  obtain ⟨hu0, hu1⟩ := hu
  obtain ⟨⟨hn0, hn16⟩, ⟨hb0, hb1⟩, ⟨hm0, hm1⟩, ⟨hs0, hs1⟩, ⟨hc0, hc1⟩, hct, hkw, how, hun⟩ := wfS hw
  have m0 : vw S 0 0 = S (4 * 0) 0 := rfl
  have hrr := runsF_in (vw S 0)
  show gW Y X S 0 [(0, .ref (yA Y 72)), (1, .int (iI r)), (2, .int (iI u))] []
  refine g_aload_n (q := 1) B dX7_runOf_0 rfl 0 rfl ?_
  refine g_get (n := 72) (ty := tyX7) (q := 4) (v := .ref (yA Y (4 * 0))) B dX7_runOf_1 rfl rfl rfl cls5 1 (by decide) w158 rfl ?_
  refine g_iload_n (q := 5) B dX7_runOf_4 rfl 1 rfl ?_
  refine g_callV (n := (4 * 0)) (ty := tyX2) (q := 8) (As := [.int (iI r)]) (st := []) B dX7_runOf_5 rfl (c_X2_hasRun (l := xL X) (S := S) (by decide) (wf.q hw) r ⟨by omega, by omega⟩) eX2_hasRun w598 (by decide) rfl (cw_N (by decide) (S ((4 * 0)))) cls2 rfl rfl (Nat.le_of_ble_eq_true rfl) (g_kE ?_)
  have := runsF_in (vw S 0)
  refine g_ifb_ne (t := 21) (q := 11) B dX7_runOf_8 (by decide) rfl (fun cq8 => ?_) (fun cq8 => ?_)
  · refine g_iload_n (q := 22) B dX7_runOf_21 rfl 2 rfl ?_
    rcases (show u = 0 ∨ u = 1 ∨ u = 2 ∨ u = 3 ∨ (u ≠ 0 ∧ u ≠ 1 ∧ u ≠ 2 ∧ u ≠ 3) by omega) with cq22 | cq22 | cq22 | cq22 | cq22
    · refine g_tsIn (q := 52) B 0 dX7_runOf_22 cq22 ⟨by decide, by decide, by decide, by decide⟩ rfl (by decide) ?_
      refine g_aload_n (q := 53) B dX7_runOf_52 rfl 0 rfl ?_
      refine g_get (n := 72) (ty := tyX7) (q := 56) (v := .ref (yA Y (4 * 0))) B dX7_runOf_53 rfl rfl rfl cls5 1 (by decide) w158 rfl ?_
      refine g_iload_n (q := 57) B dX7_runOf_56 rfl 1 rfl ?_
      refine g_callV (n := (4 * 0)) (ty := tyX2) (q := 60) (As := [.int (iI r)]) (st := []) B dX7_runOf_57 rfl (c_X2_firstPlaceOf (l := xL X) (S := S) (by decide) hw r (by omega) (by omega)) eX2_firstPlaceOf w600 (by decide) rfl (cw_N (by decide) (S ((4 * 0)))) cls2 rfl rfl (Nat.le_of_ble_eq_true rfl) (g_kE ?_)
      have hfp := fpF_in hw (r := r) (by omega) (by omega)
      refine gx_iret B V dX7_runOf_60 ?_
      have e0 : cd_runOf (vw S 0) r u = 0 := by unfold cd_runOf; (repeat' split) <;> omega
      have ev : vl_runOf (vw S 0) r u = fpF (vw S 0) r := by unfold vl_runOf; (repeat' split) <;> first | omega | rfl | exact vw_o S 0 (by omega) (by omega)
      exact ⟨e0, by rw [ev], rfl⟩
    · refine g_tsIn (q := 61) B 1 dX7_runOf_22 cq22 ⟨by decide, by decide, by decide, by decide⟩ rfl (by decide) ?_
      refine g_aload_n (q := 62) B dX7_runOf_61 rfl 0 rfl ?_
      refine g_get (n := 72) (ty := tyX7) (q := 65) (v := .ref (yA Y (4 * 0))) B dX7_runOf_62 rfl rfl rfl cls5 1 (by decide) w158 rfl ?_
      refine g_iload_n (q := 66) B dX7_runOf_65 rfl 1 rfl ?_
      refine g_callV (n := (4 * 0)) (ty := tyX2) (q := 69) (As := [.int (iI r)]) (st := []) B dX7_runOf_66 rfl (c_X2_placesOf (l := xL X) (S := S) (by decide) hw r ⟨by omega, by omega⟩) eX2_placesOf w601 (by decide) rfl (cw_N (by decide) (S ((4 * 0)))) cls2 rfl rfl (Nat.le_of_ble_eq_true rfl) (g_kE ?_)
      refine gx_iret B V dX7_runOf_69 ?_
      have e0 : cd_runOf (vw S 0) r u = 0 := by unfold cd_runOf; (repeat' split) <;> omega
      have ev : vl_runOf (vw S 0) r u = plF (vw S 0) r := by unfold vl_runOf; (repeat' split) <;> first | omega | rfl | exact vw_o S 0 (by omega) (by omega)
      exact ⟨e0, by rw [ev], rfl⟩
    · refine g_tsIn (q := 70) B 2 dX7_runOf_22 cq22 ⟨by decide, by decide, by decide, by decide⟩ rfl (by decide) ?_
      refine g_aload_n (q := 71) B dX7_runOf_70 rfl 0 rfl ?_
      refine g_get (n := 72) (ty := tyX7) (q := 74) (v := .ref (yA Y (4 * 0))) B dX7_runOf_71 rfl rfl rfl cls5 1 (by decide) w158 rfl ?_
      refine g_aload_n (q := 75) B dX7_runOf_74 rfl 0 rfl ?_
      refine g_get (n := 72) (ty := tyX7) (q := 78) (v := .ref (yA Y (4 * 0))) B dX7_runOf_75 rfl rfl rfl cls5 1 (by decide) w158 rfl ?_
      refine g_iload_n (q := 79) B dX7_runOf_78 rfl 1 rfl ?_
      refine g_callV (n := (4 * 0)) (ty := tyX2) (q := 82) (As := [.int (iI r)]) (st := [.ref (yA Y (4 * 0))]) B dX7_runOf_79 rfl (c_X2_firstPlaceOf (l := xL X) (S := S) (by decide) hw r (by omega) (by omega)) eX2_firstPlaceOf w600 (by decide) rfl (cw_N (by decide) (S ((4 * 0)))) cls2 rfl rfl (Nat.le_of_ble_eq_true rfl) (g_kE ?_)
      have hfp := fpF_in hw (r := r) (by omega) (by omega)
      have hfq := fpF_in hw (r := r) (by omega) (by omega)
      rw [vw_0] at hfq
      refine g_callV (n := (4 * 0)) (ty := tyX2) (q := 85) (As := [.int (iI (fpF (vw S 0) r))]) (st := []) B dX7_runOf_82 rfl (c_X2_ownerAt (l := xL X) (S := S) (by decide) (fpF (vw S 0) r) (by omega) (by omega)) eX2_ownerAt w587 (by decide) rfl (cw_N (by decide) (S ((4 * 0)))) cls2 rfl rfl (Nat.le_of_ble_eq_true rfl) (g_kE ?_)
      refine gx_iret B V dX7_runOf_85 ?_
      have e0 : cd_runOf (vw S 0) r u = 0 := by unfold cd_runOf; (repeat' split) <;> omega
      have ev : vl_runOf (vw S 0) r u = S (4 * 0 + 3) (fpF (vw S 0) r) := by unfold vl_runOf; (repeat' split) <;> first | omega | rfl | exact vw_o S 0 (by omega) (by omega)
      exact ⟨e0, by rw [ev], rfl⟩
    · refine g_tsIn (q := 86) B 3 dX7_runOf_22 cq22 ⟨by decide, by decide, by decide, by decide⟩ rfl (by decide) ?_
      refine g_aload_n (q := 87) B dX7_runOf_86 rfl 0 rfl ?_
      refine g_get (n := 72) (ty := tyX7) (q := 90) (v := .ref (yA Y (4 * 0))) B dX7_runOf_87 rfl rfl rfl cls5 1 (by decide) w158 rfl ?_
      refine g_iload_n (q := 91) B dX7_runOf_90 rfl 1 rfl ?_
      refine g_callV (n := (4 * 0)) (ty := tyX2) (q := 94) (As := [.int (iI r)]) (st := []) B dX7_runOf_91 rfl (c_X2_valueOfRun (l := xL X) (S := S) (by decide) hw r ⟨by omega, by omega⟩) eX2_valueOfRun w605 (by decide) rfl (cw_N (by decide) (S ((4 * 0)))) cls2 rfl rfl (Nat.le_of_ble_eq_true rfl) (g_kE ?_)
      refine gx_iret B V dX7_runOf_94 ?_
      have e0 : cd_runOf (vw S 0) r u = 0 := by unfold cd_runOf; (repeat' split) <;> omega
      have ev : vl_runOf (vw S 0) r u = rvF (vw S 0) r := by unfold vl_runOf; (repeat' split) <;> first | omega | rfl | exact vw_o S 0 (by omega) (by omega)
      exact ⟨e0, by rw [ev], rfl⟩
    · refine g_tsOut (q := 95) B dX7_runOf_22 (by omega) ⟨by omega, by omega⟩ (by decide) ?_
      refine gx_throw (cls := "java/lang/IllegalArgumentException") (text := "what is not 0 to 3") B V gEx_A (by decide) (by decide) dX7_runOf_95 dX7_runOf_98 dX7_runOf_99 dX7_runOf_101 dX7_runOf_104 ?_
      exact ⟨1, (show cd_runOf (vw S 0) r u = ((1 : Nat) : Int) + 1 by unfold cd_runOf; (repeat' split) <;> omega), rfl, rfl⟩
  · refine gx_throw (cls := "java/lang/IndexOutOfBoundsException") (text := "no such run") B V gEx_I (by decide) (by decide) dX7_runOf_11 dX7_runOf_14 dX7_runOf_15 dX7_runOf_17 dX7_runOf_20 ?_
    exact ⟨0, (show cd_runOf (vw S 0) r u = ((0 : Nat) : Int) + 1 by unfold cd_runOf; (repeat' split) <;> omega), rfl, rfl⟩
set_option maxHeartbeats 4000000 in
theorem c_X7_has {Y : gY} {l : Launch} {S : SS} (hst : l.stackTraces = false) (hw : wf (vw S 0)) (s : Int) (hs : rI s) (k : Int) (hk : rI k) : gV Y l mX7_has S [.ref (yA Y 72), .int (iI s), .int (iI k)] (xO (cd_has s k) (hasF (vw S 0) s k) (fun S' => S' = S)) (xE2 (cd_has s k) [eI] (fun S' => S' = S)) := by
  refine gV_of hst (by decide) (Nat.le_of_ble_eq_true rfl) ?_
  intro X hXl B V
  obtain ⟨hs0, hs1⟩ := hs
  obtain ⟨hk0, hk1⟩ := hk
  obtain ⟨⟨hn0, hn16⟩, ⟨hb0, hb1⟩, ⟨hm0, hm1⟩, ⟨hs0, hs1⟩, ⟨hc0, hc1⟩, hct, hkw, how, hun⟩ := wfS hw
  show gW Y X S 0 [(0, .ref (yA Y 72)), (1, .int (iI s)), (2, .int (iI k))] []
  refine g_iload_n (q := 1) B dX7_has_0 rfl 1 rfl ?_
  refine g_callS (q := 4) (As := [.int (iI s)]) (st := []) B dX7_has_1 rfl (c_X7_isSister (l := xL X) (S := S) s ⟨by omega, by omega⟩) eX7_isSister w452 (by decide) rfl rfl (Nat.le_of_ble_eq_true rfl) (g_kE ?_)
  refine g_ifb_eq (t := 14) (q := 7) B dX7_has_4 (by decide) rfl (fun cq4 => ?_) (fun cq4 => ?_)
  · refine gx_throw (cls := "java/lang/IndexOutOfBoundsException") (text := "no such sister or kind") B V gEx_I (by decide) (by decide) dX7_has_14 dX7_has_17 dX7_has_18 dX7_has_20 dX7_has_23 ?_
    exact ⟨0, (show cd_has s k = ((0 : Nat) : Int) + 1 by unfold cd_has; (repeat' split) <;> omega), rfl, rfl⟩
  · refine g_iload_n (q := 8) B dX7_has_7 rfl 2 rfl ?_
    refine g_callS (q := 11) (As := [.int (iI k)]) (st := []) B dX7_has_8 rfl (c_X7_isKind (l := xL X) (S := S) k ⟨by omega, by omega⟩) eX7_isKind w616 (by decide) rfl rfl (Nat.le_of_ble_eq_true rfl) (g_kE ?_)
    refine g_ifb_ne (t := 24) (q := 14) B dX7_has_11 (by decide) rfl (fun cq11 => ?_) (fun cq11 => ?_)
    · refine g_aload_n (q := 25) B dX7_has_24 rfl 0 rfl ?_
      refine g_get (n := 72) (ty := tyX7) (q := 28) (v := .ref (yA Y (4 * 0))) B dX7_has_25 rfl rfl rfl cls5 1 (by decide) w158 rfl ?_
      refine g_iload_n (q := 29) B dX7_has_28 rfl 1 rfl ?_
      refine g_iload_n (q := 30) B dX7_has_29 rfl 2 rfl ?_
      refine g_callV (n := (4 * 0)) (ty := tyX2) (q := 33) (As := [.int (iI s), .int (iI k)]) (st := []) B dX7_has_30 rfl (c_X2_holding (l := xL X) (S := S) (by decide) hw s k ⟨by omega, by omega⟩ ⟨by omega, by omega⟩) eX2_holding w618 (by decide) rfl (cw_N (by decide) (S ((4 * 0)))) cls2 rfl rfl (Nat.le_of_ble_eq_true rfl) (g_kE ?_)
      have := hasF_in hw s k
      refine gx_iret B V dX7_has_33 ?_
      have e0 : cd_has s k = 0 := by unfold cd_has; (repeat' split) <;> omega
      have ev : hasF (vw S 0) s k = hasF (vw S 0) s k := by (repeat' split) <;> first | rfl | omega
      exact ⟨e0, by rw [ev], rfl⟩
    · refine gx_throw (cls := "java/lang/IndexOutOfBoundsException") (text := "no such sister or kind") B V gEx_I (by decide) (by decide) dX7_has_14 dX7_has_17 dX7_has_18 dX7_has_20 dX7_has_23 ?_
      exact ⟨0, (show cd_has s k = ((0 : Nat) : Int) + 1 by unfold cd_has; (repeat' split) <;> omega), rfl, rfl⟩
