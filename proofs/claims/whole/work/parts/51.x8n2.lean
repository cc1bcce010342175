set_option maxHeartbeats 4000000 in
theorem c_X8_readText {Y : gY} {l : Launch} {S : SS} (hz : 0 ≤ S 82 1 ∧ S 82 1 ≤ 120) (ht : ∀ c : Int, 0 ≤ c → c < 120 → 0 ≤ S 83 c ∧ S 83 c ≤ 255) : gM Y l mX8_readText S [.ref (yA Y 82), .ref (yA Y 85)] (pV (.int (iI (errF (S 83) (S 82 1)))) (fun S' => tQ S S' ∧ (errF (S 83) (S 82 1) = -1 → mw S' 85 = ldG (S 83) (S 82 1) ∧ S' 82 4 = ldB (S 83) (S 82 1)))) := by
  refine gM_of (by decide) (Nat.le_of_ble_eq_true rfl) ?_
  intro X hXl B E
  show gW Y X S 0 [(0, .ref (yA Y 82)), (1, .ref (yA Y 85))] []
  have lp39 : ∀ (fu : Nat) (n : Nat) (Sx : SS) , S 82 1 - Sx 82 3 ≤ (n : Int) → tQ S Sx → wf (mw Sx 85) → 1 ≤ Sx 82 3 ∧ Sx 82 3 ≤ S 82 1 → errF (S 83) (S 82 1) = rtE (S 83) (S 82 1) 120 1 → rtE (S 83) (S 82 1) n (Sx 82 3) = rtE (S 83) (S 82 1) 120 1 → rtG (S 83) (S 82 1) n (Sx 82 3) (mw Sx 85) = ldG (S 83) (S 82 1) → Sx 82 4 + rtB (S 83) (S 82 1) n (Sx 82 3) (mw Sx 85) = ldB (S 83) (S 82 1) → n < fu → gW Y X Sx 39 [(0, .ref (yA Y 82)), (1, .ref (yA Y 85))] [] := by
    intro fu
    induction fu with
    | zero =>
      intro n Sx hn hq hwx hp hE hA hG hB hfu
      exact absurd hfu (Nat.not_lt_zero _)
    | succ fu ih =>
      intro n Sx hn hq hwx hp hE hA hG hB hfu
      have e1 : Sx 82 1 = S 82 1 := hq.1 1 (by decide) (by decide)
      have e83 : Sx 83 = S 83 := hq.2 83 (by decide) (by decide)
      have htx : ∀ c : Int, 0 ≤ c → c < 120 → 0 ≤ Sx 83 c ∧ Sx 83 c ≤ 255 := fun c a b => by rw [e83]; exact ht c a b
      have hco := kO_in (Sx 83 (Sx 82 3)) (Sx 83) (Sx 82 1) (Sx 82 3 + 1)
      refine g_aload_n (q := 40) B dX8_readText_39 rfl 0 rfl ?_
      refine g_get (n := 82) (ty := tyX8) (q := 43) (v := .int (iI (Sx 82 3))) B dX8_readText_40 rfl rfl rfl cls6 11 (by decide) w962 rfl ?_
      refine g_aload_n (q := 44) B dX8_readText_43 rfl 0 rfl ?_
      refine g_get (n := 82) (ty := tyX8) (q := 47) (v := .int (iI (Sx 82 1))) B dX8_readText_44 rfl rfl rfl cls6 2 (by decide) w953 rfl ?_
      refine g_icmp_ge (t := 63) (q := 50) B dX8_readText_47 (by decide) rfl ⟨by omega, by omega⟩ ⟨by omega, by omega⟩ (fun cq47 => ?_) (fun cq47 => ?_)
      · refine g_iconst (q := 64) B dX8_readText_63 rfl ?_
        refine g_iret B E dX8_readText_64 ?_
        have hle : ¬ Sx 82 3 < S 82 1 := by omega
        exact ⟨by rw [hE, ← hA, rtE_end _ hle], hq, fun _ => ⟨by rw [← hG, rtG_end _ hle], by rw [← hB, rtB_end _ hle, Int.add_zero]⟩⟩
      · refine g_aload_n (q := 51) B dX8_readText_50 rfl 0 rfl ?_
        refine g_aload_n (q := 52) B dX8_readText_51 rfl 1 rfl ?_
        refine g_callV (n := 82) (ty := tyX8) (q := 55) (As := [.ref (yA Y 85)]) (st := []) B dX8_readText_52 rfl (c_X8_readCommand (l := xL X) (S := Sx) hwx (by omega) (by omega) htx (by omega)) eX8_readCommand w1020 (by decide) rfl rfl cls6 rfl rfl (Nat.le_of_ble_eq_true rfl) (g_kV (fun Sz hSz => ?_))
        obtain ⟨haSz, hbSz, hfSz, hdSz⟩ := hSz
        have haz := haSz
        have hcp3 := kP_in (c := Sx 83 (Sx 82 3)) (t := Sx 83) (z := Sx 82 1) (q := Sx 82 3 + 1) (by omega)
        refine g_if_ne (t := 39) (q := 58) B dX8_readText_55 (by decide) rfl ⟨by omega, by omega⟩ (fun cq55 => ?_) (fun cq55 => ?_)
        · have ho : kO (Sx 83 (Sx 82 3)) (Sx 83) (Sx 82 1) (Sx 82 3 + 1) = 1 := by omega
          have h9 := hdSz ho
          have hcp := kP_in (c := Sx 83 (Sx 82 3)) (t := Sx 83) (z := Sx 82 1) (q := Sx 82 3 + 1) (by omega)
          have hcp2 := hcp.2.2 ho
          obtain ⟨i, rfl⟩ : ∃ i, n = i + 1 := ⟨n - 1, by omega⟩
          rw [e83, e1] at ho h9 haSz hcp hcp2
          rw [rtE, if_pos (by omega), if_pos ho] at hA
          rw [rtG, if_pos (by omega)] at hG
          rw [rtB, if_pos (by omega)] at hB
          exact ih i _ (by rw [haSz]; omega) (by exact ⟨fun c h3 h4 => (hbSz c h3 h4).trans (hq.1 c h3 h4), fun m h5 h2 => (hfSz m h5 h2).trans (hq.2 m h5 h2)⟩) (by rw [h9.1]; exact wf_kG hwx _ _ _ _) (by rw [haSz]; omega) (by first | assumption | omega) (by rw [haSz]; exact hA) (by rw [haSz, h9.1]; exact hG) (by rw [haSz, h9.1, h9.2, ← hB, Int.add_assoc]) (by omega)
        · refine g_aload_n (q := 59) B dX8_readText_58 rfl 0 rfl ?_
          refine g_get (n := 82) (ty := tyX8) (q := 62) (v := .int (iI (Sz 82 3))) B dX8_readText_59 rfl rfl rfl cls6 11 (by decide) w962 rfl ?_
          refine g_iret B E dX8_readText_62 ?_
          have ho : ¬ kO (Sx 83 (Sx 82 3)) (Sx 83) (Sx 82 1) (Sx 82 3 + 1) = 1 := by omega
          have eE : rtE (S 83) (S 82 1) n (Sx 82 3) = kP (Sx 83 (Sx 82 3)) (Sx 83) (Sx 82 1) (Sx 82 3 + 1) := by
            obtain ⟨i, rfl⟩ : ∃ i, n = i + 1 := ⟨n - 1, by omega⟩
            rw [rtE, if_pos (by omega), ← e83, ← e1, if_neg ho]
          refine ⟨by rw [hE, ← hA, eE, haSz], ⟨fun c h3 h4 => (hbSz c h3 h4).trans (hq.1 c h3 h4), fun m h5 h2 => (hfSz m h5 h2).trans (hq.2 m h5 h2)⟩, fun h => ?_⟩
          rw [hE, ← hA, eE] at h
          have := kP_in (c := Sx 83 (Sx 82 3)) (t := Sx 83) (z := Sx 82 1) (q := Sx 82 3 + 1) (by omega)
          omega
  refine g_aload_n (q := 1) B dX8_readText_0 rfl 1 rfl ?_
  refine g_callS (q := 4) (As := [.ref (yA Y 85)]) (st := []) B dX8_readText_1 rfl (c_X8_clear (l := xL X) (S := S) (Or.inr rfl)   ) eX8_clear w945 (by decide) rfl rfl (Nat.le_of_ble_eq_true rfl) (g_k0 (fun Sy hSy => ?_))
  obtain ⟨hvSy, hfSy⟩ := hSy
  have e82 : Sy 82 = S 82 := hfSy 82 (by decide)
  have e83 : Sy 83 = S 83 := hfSy 83 (by decide)
  have e1y : Sy 82 1 = S 82 1 := congrFun e82 1
  have htz : ∀ c : Int, 0 ≤ c → c < 120 → 0 ≤ Sy 83 c ∧ Sy 83 c ≤ 255 := fun c a b => by rw [e83]; exact ht c a b
  have hty := htz 0 (by decide) (by decide)
  refine g_aload_n (q := 5) B dX8_readText_4 rfl 0 rfl ?_
  refine g_iconst (q := 6) B dX8_readText_5 rfl ?_
  refine g_put (n := 82) (ty := tyX8) (q := 9) B dX8_readText_6 rfl rfl rfl cls6 12 (by decide) w963 rfl rfl rfl (Nat.le_of_ble_eq_true rfl) ((uq (Sy 82) 4 0)) rfl ?_
  refine g_aload_n (q := 10) B dX8_readText_9 rfl 0 rfl ?_
  refine g_iconst (q := 11) B dX8_readText_10 rfl ?_
  refine g_put (n := 82) (ty := tyX8) (q := 14) B dX8_readText_11 rfl (us_eq _ _ _) rfl cls6 11 (by decide) w962 rfl rfl rfl (Nat.le_of_ble_eq_true rfl) ((uq ((uq (Sy 82) 4 0)) 3 0)) rfl ?_
  refine g_eqS (us_us _ _ _ _) ?_
  refine g_aload_n (q := 15) B dX8_readText_14 rfl 0 rfl ?_
  refine g_get (n := 82) (ty := tyX8) (q := 18) (v := .int (iI (Sy 82 1))) B dX8_readText_15 rfl (us_eq _ _ _) rfl cls6 2 (by decide) w953 rfl ?_
  refine g_if_eq (t := 32) (q := 21) B dX8_readText_18 (by decide) rfl ⟨by omega, by omega⟩ (fun cq18 => ?_) (fun cq18 => ?_)
  · refine g_iconst (q := 33) B dX8_readText_32 rfl ?_
    refine g_iret B E dX8_readText_33 ?_
    have e1 : Sy 82 1 = S 82 1 := congrFun e82 1
    have hE : errF (S 83) (S 82 1) = 0 := if_pos (by first | (exact Or.inl (by omega)) | (exact Or.inr (fun h => by rw [← e83] at h; omega)))
    refine ⟨by rw [hE], ⟨fun c h3 h4 => by simp only [us_eq, e82, uq_ne _ _ h3, uq_ne _ _ h4], fun m h5 h2 => by simp only [us_ne _ _ h2, hfSy m h5]⟩, fun h => ?_⟩
    rw [hE] at h
    exact absurd h (by decide)
  · refine g_aload_n (q := 22) B dX8_readText_21 rfl 0 rfl ?_
    refine g_get (n := 82) (ty := tyX8) (q := 25) (v := .ref (yA Y 83)) B dX8_readText_22 rfl (us_eq _ _ _) rfl cls6 1 (by decide) w952 rfl ?_
    refine g_iconst (q := 26) B dX8_readText_25 rfl ?_
    refine g_iald (n := 83) (q := 27) B dX8_readText_26 rfl ((us_ne _ _ (by omega)).trans rfl) rfl (by decide) (by omega) (by omega) ?_
    refine g_bipush (q := 29) B dX8_readText_27 rfl (by decide) ?_
    refine g_icmp_eq (t := 34) (q := 32) B dX8_readText_29 (by decide) rfl ⟨by omega, by omega⟩ ⟨by omega, by omega⟩ (fun cq29 => ?_) (fun cq29 => ?_)
    · refine g_aload_n (q := 35) B dX8_readText_34 rfl 0 rfl ?_
      refine g_iconst (q := 36) B dX8_readText_35 rfl ?_
      refine g_put (n := 82) (ty := tyX8) (q := 39) B dX8_readText_36 rfl (us_eq _ _ _) rfl cls6 11 (by decide) w962 rfl rfl rfl (Nat.le_of_ble_eq_true rfl) ((uq ((uq ((uq (Sy 82) 4 0)) 3 0)) 3 1)) rfl ?_
      refine g_eqS (us_us _ _ _ _) ?_
      exact lp39 _ 120 _ (by show S 82 1 - 1 ≤ ((120 : Nat) : Int); omega) (by exact ⟨fun c h3 h4 => by simp only [us_eq, e82, uq_ne _ _ h3, uq_ne _ _ h4], fun m h5 h2 => by simp only [us_ne _ _ h2, hfSy m h5]⟩) (by rw [mw_ne (by decide), hvSy]; exact wf_newM) (by show 1 ≤ (1 : Int) ∧ (1 : Int) ≤ S 82 1; have e1 : Sy 82 1 = S 82 1 := congrFun e82 1; omega) (by have e1 : Sy 82 1 = S 82 1 := congrFun e82 1; exact if_neg (by rw [← e83]; omega)) (by rfl) (by rw [mw_ne (by decide), hvSy]; rfl) (by rw [mw_ne (by decide), hvSy]; exact Int.zero_add _) (Nat.lt_succ_self _)
    · refine g_iconst (q := 33) B dX8_readText_32 rfl ?_
      refine g_iret B E dX8_readText_33 ?_
      have e1 : Sy 82 1 = S 82 1 := congrFun e82 1
      have hE : errF (S 83) (S 82 1) = 0 := if_pos (by first | (exact Or.inl (by omega)) | (exact Or.inr (fun h => by rw [← e83] at h; omega)))
      refine ⟨by rw [hE], ⟨fun c h3 h4 => by simp only [us_eq, e82, uq_ne _ _ h3, uq_ne _ _ h4], fun m h5 h2 => by simp only [us_ne _ _ h2, hfSy m h5]⟩, fun h => ?_⟩
      rw [hE] at h
      exact absurd h (by decide)
set_option maxHeartbeats 4000000 in
theorem c_X8_errorPosition {Y : gY} {l : Launch} {S : SS} (hz : 0 ≤ S 82 1 ∧ S 82 1 ≤ 120) (ht : ∀ c : Int, 0 ≤ c → c < 120 → 0 ≤ S 83 c ∧ S 83 c ≤ 255) : gM Y l mX8_errorPosition S [.ref (yA Y 82)] (pV (.int (iI (errF (S 83) (S 82 1)))) (fun S' => tQ (us S 82 (uq (S 82) 0 0)) S')) := by
  refine gM_of (by decide) (Nat.le_of_ble_eq_true rfl) ?_
  intro X hXl B E
  show gW Y X S 0 [(0, .ref (yA Y 82))] []
  refine g_aload_n (q := 1) B dX8_errorPosition_0 rfl 0 rfl ?_
  refine g_iconst (q := 2) B dX8_errorPosition_1 rfl ?_
  refine g_put (n := 82) (ty := tyX8) (q := 5) B dX8_errorPosition_2 rfl rfl rfl cls6 0 (by decide) w951 rfl rfl rfl (Nat.le_of_ble_eq_true rfl) ((uq (S 82) 0 0)) rfl ?_
  refine g_aload_n (q := 6) B dX8_errorPosition_5 rfl 0 rfl ?_
  refine g_aload_n (q := 7) B dX8_errorPosition_6 rfl 0 rfl ?_
  refine g_get (n := 82) (ty := tyX8) (q := 10) (v := .ref (yA Y 85)) B dX8_errorPosition_7 rfl (us_eq _ _ _) rfl cls6 4 (by decide) w955 rfl ?_
  refine g_callV (n := 82) (ty := tyX8) (q := 13) (As := [.ref (yA Y 85)]) (st := []) B dX8_errorPosition_10 rfl (c_X8_readText (l := xL X) (S := (us S 82 ((uq (S 82) 0 0)))) hz ht) eX8_readText w1016 (by decide) (us_eq _ _ _) rfl cls6 rfl rfl (Nat.le_of_ble_eq_true rfl) (g_kV (fun Sy hSy => ?_))
  obtain ⟨hqSy, hxSy⟩ := hSy
  refine g_iret B E dX8_errorPosition_13 ?_
  exact ⟨rfl, hqSy⟩
set_option maxHeartbeats 4000000 in
theorem c_X8_load {Y : gY} {l : Launch} {S : SS} (hz : 0 ≤ S 82 1 ∧ S 82 1 ≤ 120) (ht : ∀ c : Int, 0 ≤ c → c < 120 → 0 ≤ S 83 c ∧ S 83 c ≤ 255) : gM Y l mX8_load S [.ref (yA Y 82)] (pV (.int (iI (if errF (S 83) (S 82 1) = -1 then ldB (S 83) (S 82 1) else 0))) (fun S' => (errF (S 83) (S 82 1) ≠ -1 → S' 82 0 = 1 ∧ (∀ c : Int, c ≠ 0 → c ≠ 3 → c ≠ 4 → S' 82 c = S 82 c) ∧ ∀ m : Nat, m ≠ 85 → m ≠ 82 → S' m = S m) ∧ (errF (S 83) (S 82 1) = -1 → mw S' 84 = ldG (S 83) (S 82 1) ∧ (S' 82 0 = 0 ∧ S' 82 2 = 0 ∧ S' 82 1 = S 82 1) ∧ (S' 88 0 = 0 ∧ S' 88 1 = 0) ∧ ∀ m : Nat, m ≠ 82 → m ≠ 84 → m ≠ 85 → m ≠ 88 → S' m = S m))) := by
  refine gM_of (by decide) (Nat.le_of_ble_eq_true rfl) ?_
  intro X hXl B E
  show gW Y X S 0 [(0, .ref (yA Y 82))] []
  refine g_aload_n (q := 1) B dX8_load_0 rfl 0 rfl ?_
  refine g_aload_n (q := 2) B dX8_load_1 rfl 0 rfl ?_
  refine g_aload_n (q := 3) B dX8_load_2 rfl 0 rfl ?_
  refine g_get (n := 82) (ty := tyX8) (q := 6) (v := .ref (yA Y 85)) B dX8_load_3 rfl rfl rfl cls6 4 (by decide) w955 rfl ?_
  refine g_callV (n := 82) (ty := tyX8) (q := 9) (As := [.ref (yA Y 85)]) (st := [.ref (yA Y 82)]) B dX8_load_6 rfl (c_X8_readText (l := xL X) (S := S) hz ht) eX8_readText w1016 (by decide) rfl rfl cls6 rfl rfl (Nat.le_of_ble_eq_true rfl) (g_kV (fun Sy hSy => ?_))
  obtain ⟨hqSy, hxSy⟩ := hSy
  have herr := errF_in (t := S 83) (z := S 82 1) hz.1
  have e1 := hqSy.1 1 (by decide) (by decide)
  refine g_iconst (q := 10) B dX8_load_9 rfl ?_
  refine g_icmp_ne (t := 17) (q := 13) B dX8_load_10 (by decide) rfl ⟨by omega, by omega⟩ ⟨by omega, by omega⟩ (fun cq10 => ?_) (fun cq10 => ?_)
  · refine g_iconst (q := 18) B dX8_load_17 rfl ?_
    refine g_callV (n := 82) (ty := tyX8) (q := 21) (As := [.int (iI 1)]) (st := []) B dX8_load_18 rfl (c_X8_refused (l := xL X) (S := Sy) 1 ⟨by omega, by omega⟩) eX8_refused w1004 (by decide) rfl rfl cls6 rfl rfl (Nat.le_of_ble_eq_true rfl) (g_kE ?_)
    refine g_ifb_eq (t := 26) (q := 24) B dX8_load_21 (by decide) rfl (fun cq21 => ?_) (fun cq21 => ?_)
    · exact absurd cq21 (by decide)
    · refine g_iconst (q := 25) B dX8_load_24 rfl ?_
      refine g_iret B E dX8_load_25 ?_
      have hne : errF (S 83) (S 82 1) ≠ -1 := by omega
      exact ⟨by rw [if_neg hne], fun _ => ⟨rfl, fun c h0 h3 h4 => (uq_ne _ _ h0).trans (hqSy.1 c h3 h4), fun m h5 h2 => (us_ne _ _ h2).trans (hqSy.2 m h5 h2)⟩, fun h => absurd h hne⟩
  · refine g_iconst (q := 14) B dX8_load_13 rfl ?_
    refine g_goto (q := 18) B dX8_load_14 (by decide) ?_
    refine g_callV (n := 82) (ty := tyX8) (q := 21) (As := [.int (iI 0)]) (st := []) B dX8_load_18 rfl (c_X8_refused (l := xL X) (S := Sy) 0 ⟨by omega, by omega⟩) eX8_refused w1004 (by decide) rfl rfl cls6 rfl rfl (Nat.le_of_ble_eq_true rfl) (g_kE ?_)
    refine g_ifb_eq (t := 26) (q := 24) B dX8_load_21 (by decide) rfl (fun cq21 => ?_) (fun cq21 => ?_)
    · refine g_aload_n (q := 27) B dX8_load_26 rfl 0 rfl ?_
      refine g_get (n := 82) (ty := tyX8) (q := 30) (v := .ref (yA Y 85)) B dX8_load_27 rfl (us_eq _ _ _) rfl cls6 4 (by decide) w955 rfl ?_
      refine g_iconst (q := 31) B dX8_load_30 rfl ?_
      refine g_aload_n (q := 32) B dX8_load_31 rfl 0 rfl ?_
      refine g_get (n := 82) (ty := tyX8) (q := 35) (v := .ref (yA Y 84)) B dX8_load_32 rfl (us_eq _ _ _) rfl cls6 3 (by decide) w954 rfl ?_
      refine g_iconst (q := 36) B dX8_load_35 rfl ?_
      refine g_callS (q := 39) (As := [.ref (yA Y 85), .int (iI 0), .ref (yA Y 84), .int (iI 0)]) (st := []) B dX8_load_36 rfl (c_X8_copyState (l := xL X) (S := (us Sy 82 ((uq (Sy 82) 0 0)))) (Or.inr (Or.inl ⟨rfl, rfl⟩)) (Or.inl ⟨rfl, rfl⟩) (by decide) 0 0 (by omega) (by omega) (by omega) (by omega)) eX8_copyState w1105 (by decide) rfl rfl (Nat.le_of_ble_eq_true rfl) (g_0E ?_)
      refine g_aload_n (q := 40) B dX8_load_39 rfl 0 rfl ?_
      refine g_iconst (q := 41) B dX8_load_40 rfl ?_
      refine g_put (n := 82) (ty := tyX8) (q := 44) B dX8_load_41 rfl ((us_ne _ _ (by omega)).trans (us_eq _ _ _)) rfl cls6 6 (by decide) w957 rfl rfl rfl (Nat.le_of_ble_eq_true rfl) ((uq ((uq (Sy 82) 0 0)) 2 0)) rfl ?_
      refine g_aload_n (q := 45) B dX8_load_44 rfl 0 rfl ?_
      refine g_get (n := 82) (ty := tyX8) (q := 48) (v := .ref (yA Y 88)) B dX8_load_45 rfl (us_eq _ _ _) rfl cls6 8 (by decide) w959 rfl ?_
      refine g_iconst (q := 49) B dX8_load_48 rfl ?_
      refine g_iconst (q := 50) B dX8_load_49 rfl ?_
      refine g_zast (n := 88) (q := 51) B dX8_load_50 rfl ((us_ne _ _ (by omega)).trans ((us_ne _ _ (by omega)).trans ((us_ne _ _ (by omega)).trans rfl))) (fun _ => rfl) (by decide) (by omega) (by omega) (by decide) ?_
      refine g_aload_n (q := 52) B dX8_load_51 rfl 0 rfl ?_
      refine g_get (n := 82) (ty := tyX8) (q := 55) (v := .ref (yA Y 88)) B dX8_load_52 rfl ((us_ne _ _ (by omega)).trans (us_eq _ _ _)) rfl cls6 8 (by decide) w959 rfl ?_
      refine g_iconst (q := 56) B dX8_load_55 rfl ?_
      refine g_iconst (q := 57) B dX8_load_56 rfl ?_
      refine g_zast (n := 88) (q := 58) B dX8_load_57 rfl (us_eq _ _ _) (fun _ => rfl) (by decide) (by omega) (by omega) (by decide) ?_
      refine g_eqS (us_us _ _ _ _) ?_
      refine g_aload_n (q := 59) B dX8_load_58 rfl 0 rfl ?_
      refine g_get (n := 82) (ty := tyX8) (q := 62) (v := .int (iI (Sy 82 4))) B dX8_load_59 rfl ((us_ne _ _ (by omega)).trans (us_eq _ _ _)) rfl cls6 12 (by decide) w963 rfl ?_
      refine g_iret B E dX8_load_62 ?_
      have he : errF (S 83) (S 82 1) = -1 := by omega
      have h9 := hxSy he
      refine ⟨by rw [if_pos he, ← h9.2], fun h => absurd he h, fun _ => ⟨?_, ⟨rfl, rfl, e1⟩, ⟨rfl, rfl⟩, fun m h2 h4 h5 h8 => ?_⟩⟩
      · rw [← h9.1]
        funext b
        unfold mw
        by_cases hb : 0 ≤ b ∧ b < 54
        · rw [if_pos hb, if_pos hb]
          show cpF (Sy 84) (Sy 85) 0 0 54 b = Sy 85 b
          rw [cpF, if_pos (by omega)]
          congr 1; omega
        · rw [if_neg hb, if_neg hb]
      · simp only [us_ne _ _ h2, us_ne _ _ h4, us_ne _ _ h8]
        exact hqSy.2 m h5 h2
    · exact absurd cq21 (by decide)
