set_option maxHeartbeats 4000000 in
theorem c_L_append {Y : gY} {l : Launch} {S : SS} (hst : l.stackTraces = false) (hz : 0 ≤ S 73 0 ∧ S 73 0 ≤ 120) (ht : ∀ c : Int, 0 ≤ c → c < 120 → 0 ≤ S 74 c ∧ S 74 c ≤ 255) (c : Int) (hc : rI c) : gVH Y l yL_append cL_append 4 [(0, 9, 12, 13), (0, 9, 15, 15)] (mX7_append.2.2.2.2 + 11) S [.ref (yA Y 72), .int (iI c), .ref (yA Y 91)] (wP (cd_len (S 73 0) c) (S 73 0 + 1) (fun S' => S' = us (us S 74 (uq (S 74) (S 73 0) c)) 73 (uq (S 73) 0 (S 73 0 + 1))) (fun S' => S' = S)) := by
  refine gVH_of (by decide) (Nat.le_of_ble_eq_true rfl) ?_
  intro X hXl B tab hcap Z
  subst hXl
  show gW Y X S 0 [(0, .ref (yA Y 72)), (1, .int (iI c)), (2, .ref (yA Y 91))] []
  refine g_aload_n (q := 1) B dL_append_0 rfl 2 rfl ?_
  refine g_iconst (q := 2) B dL_append_1 rfl ?_
  refine g_aload_n (q := 3) B dL_append_2 rfl 0 rfl ?_
  refine g_iload_n (q := 4) B dL_append_3 rfl 1 rfl ?_
  refine g_callX (As := [.int (iI c)]) (st := [.int (iI 0), .ref (yA Y 91)]) B dL_append_4 (c_X7_append (Y := Y) (l := xL X) (S := S) hst hz ht c hc) eX7_append w433 (Nat.le_refl _) rfl rfl (Nat.le_of_ble_eq_true rfl) (by rw [hcap.1]; exact hcap.2.2.1) (by rw [hcap.2.1]; exact hcap.2.2.2) (fun v Sv hv => ?_) (fun Ex Sv hx => ?_)
  · obtain ⟨hcz, rfl, hPz⟩ := hv
    have B2 := gB_up B (by rw [hcap.1]; exact hcap.2.2.1) (by rw [hcap.2.1]; exact hcap.2.2.2)
    have Z2 : gZ Y (xUp X) (wP (cd_len (S 73 0) c) (S 73 0 + 1) (fun S' => S' = us (us S 74 (uq (S 74) (S 73 0) c)) 73 (uq (S 73) 0 (S 73 0 + 1))) (fun S' => S' = S)) := ⟨Z.1, by show xCells X + 1 ≤ 1; rw [hcap.1]; decide, by show xSlots X + 6 ≤ 6; rw [hcap.2.1]; decide⟩
    refine g_i2lN (q := 8) B2 dL_append_7 rfl ?_
    refine g_last (n := 91) (q := 9) B2 dL_append_8 rfl rfl (fun _ => rfl) (by decide) (by decide) (by decide) ?_
    refine g_goto (q := 18) B2 dL_append_9 (by decide) ?_
    refine g_iconst (q := 19) B2 dL_append_18 rfl ?_
    exact gz_iret B2 Z2 dL_append_19 ⟨by rw [hcz], Or.inl ⟨hcz, Sv, hPz, rfl⟩⟩
  · obtain ⟨jz, hcz, hjz, hPz⟩ := hx
    have B2 := gB_up B (by rw [hcap.1]; exact hcap.2.2.1) (by rw [hcap.2.1]; exact hcap.2.2.2)
    have Z2 : gZ Y (xUp X) (wP (cd_len (S 73 0) c) (S 73 0 + 1) (fun S' => S' = us (us S 74 (uq (S 74) (S 73 0) c)) 73 (uq (S 73) 0 (S 73 0 + 1))) (fun S' => S' = S)) := ⟨Z.1, by show xCells X + 1 ≤ 1; rw [hcap.1]; decide, by show xSlots X + 6 ≤ 6; rw [hcap.2.1]; decide⟩
    rcases jz with _ | _ | jz
    · cases hjz
      refine g_catch B2 [] ⟨0, 9, 12, 13⟩ [⟨0, 9, 15, 15⟩] tab (fun z hz => absurd hz List.not_mem_nil) (by decide) (by decide) wl_A (by decide) (fun q9 => ?_)
      show gW Y (xUp X) Sv 12 [(0, .ref (yA Y 72)), (1, .int (iI c)), (2, .ref (yA Y 91))] [.ref q9]
      refine g_astore_n (q := 13) B2 dL_append_12 rfl (by decide) (L' := [(3, .ref q9), (0, .ref (yA Y 72)), (1, .int (iI c)), (2, .ref (yA Y 91))]) rfl ?_
      refine g_iconst (q := 14) B2 dL_append_13 rfl ?_
      exact gz_iret B2 Z2 dL_append_14 ⟨by rw [hcz]; rfl, Or.inr ⟨by rw [hcz]; decide, hPz⟩⟩
    · cases hjz
      refine g_catch B2 [⟨0, 9, 12, 13⟩] ⟨0, 9, 15, 15⟩ [] tab (fun z hz => by cases List.mem_singleton.mp hz; exact ⟨by decide, eA, wl_A, by decide⟩) (by decide) (by decide) wl_S (by decide) (fun q9 => ?_)
      show gW Y (xUp X) Sv 15 [(0, .ref (yA Y 72)), (1, .int (iI c)), (2, .ref (yA Y 91))] [.ref q9]
      refine g_astore_n (q := 16) B2 dL_append_15 rfl (by decide) (L' := [(3, .ref q9), (0, .ref (yA Y 72)), (1, .int (iI c)), (2, .ref (yA Y 91))]) rfl ?_
      refine g_iconst (q := 17) B2 dL_append_16 rfl ?_
      exact gz_iret B2 Z2 dL_append_17 ⟨by rw [hcz]; rfl, Or.inr ⟨by rw [hcz]; decide, hPz⟩⟩
    · cases hjz

set_option maxHeartbeats 4000000 in
theorem c_L_load {Y : gY} {l : Launch} {S : SS} (hst : l.stackTraces = false) (hz : 0 ≤ S 73 0 ∧ S 73 0 ≤ 120) (ht : ∀ c : Int, 0 ≤ c → c < 120 → 0 ≤ S 74 c ∧ S 74 c ≤ 255) (hw : wf (vw S 0)) (hslot : S 80 0 = S 80 0) : gVH Y l yL_load cL_load 3 [(0, 8, 11, 15)] (mX7_load.2.2.2.2 + 11) S [.ref (yA Y 72), .ref (yA Y 91)] (wP (cd_e (errF (S 74) (S 73 0))) (rtB (S 74) (S 73 0) 120 1 (newF (vw S 0))) (fun S' => vw S' 0 = rtG (S 74) (S 73 0) 120 1 (newF (vw S 0)) ∧ (S' 75 0 = S 75 0 ∧ S' 75 1 = 0) ∧ (S' 80 0 = 0 ∧ S' 81 0 = 0) ∧ ∀ m : Nat, 4 ≤ m → m ≠ 75 → m ≠ 80 → m ≠ 81 → S' m = S m) (fun S' => S' = S)) := by
  refine gVH_of (by decide) (Nat.le_of_ble_eq_true rfl) ?_
  intro X hXl B tab hcap Z
  subst hXl
  show gW Y X S 0 [(0, .ref (yA Y 72)), (1, .ref (yA Y 91))] []
  refine g_aload_n (q := 1) B dL_load_0 rfl 1 rfl ?_
  refine g_iconst (q := 2) B dL_load_1 rfl ?_
  refine g_aload_n (q := 3) B dL_load_2 rfl 0 rfl ?_
  refine g_callX (As := []) (st := [.int (iI 0), .ref (yA Y 91)]) B dL_load_3 (c_X7_load (Y := Y) (l := xL X) (S := S) hst hz ht hw hslot) eX7_load w527 (Nat.le_refl _) rfl rfl (Nat.le_of_ble_eq_true rfl) (by rw [hcap.1]; exact hcap.2.2.1) (by rw [hcap.2.1]; exact hcap.2.2.2) (fun v Sv hv => ?_) (fun Ex Sv hx => ?_)
  · obtain ⟨hcz, rfl, hPz⟩ := hv
    have B2 := gB_up B (by rw [hcap.1]; exact hcap.2.2.1) (by rw [hcap.2.1]; exact hcap.2.2.2)
    have Z2 : gZ Y (xUp X) (wP (cd_e (errF (S 74) (S 73 0))) (rtB (S 74) (S 73 0) 120 1 (newF (vw S 0))) (fun S' => vw S' 0 = rtG (S 74) (S 73 0) 120 1 (newF (vw S 0)) ∧ (S' 75 0 = S 75 0 ∧ S' 75 1 = 0) ∧ (S' 80 0 = 0 ∧ S' 81 0 = 0) ∧ ∀ m : Nat, 4 ≤ m → m ≠ 75 → m ≠ 80 → m ≠ 81 → S' m = S m) (fun S' => S' = S)) := ⟨Z.1, by show xCells X + 1 ≤ 1; rw [hcap.1]; decide, by show xSlots X + 6 ≤ 6; rw [hcap.2.1]; decide⟩
    refine g_i2lN (q := 7) B2 dL_load_6 rfl ?_
    refine g_last (n := 91) (q := 8) B2 dL_load_7 rfl rfl (fun _ => rfl) (by decide) (by decide) (by decide) ?_
    refine g_goto (q := 14) B2 dL_load_8 (by decide) ?_
    refine g_iconst (q := 15) B2 dL_load_14 rfl ?_
    exact gz_iret B2 Z2 dL_load_15 ⟨by rw [hcz], Or.inl ⟨hcz, Sv, hPz, rfl⟩⟩
  · obtain ⟨jz, hcz, hjz, hPz⟩ := hx
    have B2 := gB_up B (by rw [hcap.1]; exact hcap.2.2.1) (by rw [hcap.2.1]; exact hcap.2.2.2)
    have Z2 : gZ Y (xUp X) (wP (cd_e (errF (S 74) (S 73 0))) (rtB (S 74) (S 73 0) 120 1 (newF (vw S 0))) (fun S' => vw S' 0 = rtG (S 74) (S 73 0) 120 1 (newF (vw S 0)) ∧ (S' 75 0 = S 75 0 ∧ S' 75 1 = 0) ∧ (S' 80 0 = 0 ∧ S' 81 0 = 0) ∧ ∀ m : Nat, 4 ≤ m → m ≠ 75 → m ≠ 80 → m ≠ 81 → S' m = S m) (fun S' => S' = S)) := ⟨Z.1, by show xCells X + 1 ≤ 1; rw [hcap.1]; decide, by show xSlots X + 6 ≤ 6; rw [hcap.2.1]; decide⟩
    rcases jz with _ | jz
    · cases hjz
      refine g_catch B2 [] ⟨0, 8, 11, 15⟩ [] tab (fun z hz => absurd hz List.not_mem_nil) (by decide) (by decide) wl_S (by decide) (fun q9 => ?_)
      show gW Y (xUp X) Sv 11 [(0, .ref (yA Y 72)), (1, .ref (yA Y 91))] [.ref q9]
      refine g_astore_n (q := 12) B2 dL_load_11 rfl (by decide) (L' := [(2, .ref q9), (0, .ref (yA Y 72)), (1, .ref (yA Y 91))]) rfl ?_
      refine g_iconst (q := 13) B2 dL_load_12 rfl ?_
      exact gz_iret B2 Z2 dL_load_13 ⟨by rw [hcz]; rfl, Or.inr ⟨by rw [hcz]; decide, hPz⟩⟩
    · cases hjz

set_option maxHeartbeats 4000000 in
theorem c_L_about {Y : gY} {l : Launch} {S : SS} (hst : l.stackTraces = false) (hw : wf (vw S 0)) (u : Int) (hu : rI u) : gVH Y l yL_about cL_about 4 [(0, 9, 12, 13)] (mX7_about.2.2.2.2 + 11) S [.ref (yA Y 72), .int (iI u), .ref (yA Y 91)] (wP (cd_about u) (vl_about (vw S 0) u) (fun S' => S' = S) (fun S' => S' = S)) := by
  refine gVH_of (by decide) (Nat.le_of_ble_eq_true rfl) ?_
  intro X hXl B tab hcap Z
  subst hXl
  show gW Y X S 0 [(0, .ref (yA Y 72)), (1, .int (iI u)), (2, .ref (yA Y 91))] []
  refine g_aload_n (q := 1) B dL_about_0 rfl 2 rfl ?_
  refine g_iconst (q := 2) B dL_about_1 rfl ?_
  refine g_aload_n (q := 3) B dL_about_2 rfl 0 rfl ?_
  refine g_iload_n (q := 4) B dL_about_3 rfl 1 rfl ?_
  refine g_callX (As := [.int (iI u)]) (st := [.int (iI 0), .ref (yA Y 91)]) B dL_about_4 (c_X7_about (Y := Y) (l := xL X) (S := S) hst hw u hu) eX7_about w608 (Nat.le_refl _) rfl rfl (Nat.le_of_ble_eq_true rfl) (by rw [hcap.1]; exact hcap.2.2.1) (by rw [hcap.2.1]; exact hcap.2.2.2) (fun v Sv hv => ?_) (fun Ex Sv hx => ?_)
  · obtain ⟨hcz, rfl, hPz⟩ := hv
    have B2 := gB_up B (by rw [hcap.1]; exact hcap.2.2.1) (by rw [hcap.2.1]; exact hcap.2.2.2)
    have Z2 : gZ Y (xUp X) (wP (cd_about u) (vl_about (vw S 0) u) (fun S' => S' = S) (fun S' => S' = S)) := ⟨Z.1, by show xCells X + 1 ≤ 1; rw [hcap.1]; decide, by show xSlots X + 6 ≤ 6; rw [hcap.2.1]; decide⟩
    refine g_i2lN (q := 8) B2 dL_about_7 rfl ?_
    refine g_last (n := 91) (q := 9) B2 dL_about_8 rfl rfl (fun _ => rfl) (by decide) (by decide) (by decide) ?_
    refine g_goto (q := 15) B2 dL_about_9 (by decide) ?_
    refine g_iconst (q := 16) B2 dL_about_15 rfl ?_
    exact gz_iret B2 Z2 dL_about_16 ⟨by rw [hcz], Or.inl ⟨hcz, Sv, hPz, rfl⟩⟩
  · obtain ⟨jz, hcz, hjz, hPz⟩ := hx
    have B2 := gB_up B (by rw [hcap.1]; exact hcap.2.2.1) (by rw [hcap.2.1]; exact hcap.2.2.2)
    have Z2 : gZ Y (xUp X) (wP (cd_about u) (vl_about (vw S 0) u) (fun S' => S' = S) (fun S' => S' = S)) := ⟨Z.1, by show xCells X + 1 ≤ 1; rw [hcap.1]; decide, by show xSlots X + 6 ≤ 6; rw [hcap.2.1]; decide⟩
    rcases jz with _ | jz
    · cases hjz
      refine g_catch B2 [] ⟨0, 9, 12, 13⟩ [] tab (fun z hz => absurd hz List.not_mem_nil) (by decide) (by decide) wl_A (by decide) (fun q9 => ?_)
      show gW Y (xUp X) Sv 12 [(0, .ref (yA Y 72)), (1, .int (iI u)), (2, .ref (yA Y 91))] [.ref q9]
      refine g_astore_n (q := 13) B2 dL_about_12 rfl (by decide) (L' := [(3, .ref q9), (0, .ref (yA Y 72)), (1, .int (iI u)), (2, .ref (yA Y 91))]) rfl ?_
      refine g_iconst (q := 14) B2 dL_about_13 rfl ?_
      exact gz_iret B2 Z2 dL_about_14 ⟨by rw [hcz]; rfl, Or.inr ⟨by rw [hcz]; decide, hPz⟩⟩
    · cases hjz

set_option maxHeartbeats 4000000 in
theorem c_L_jewelOf {Y : gY} {l : Launch} {S : SS} (hst : l.stackTraces = false) (hw : wf (vw S 0)) (j : Int) (hj : rI j) (u : Int) (hu : rI u) : gVH Y l yL_jewelOf cL_jewelOf 5 [(0, 10, 13, 28), (0, 10, 17, 13)] (mX7_jewelOf.2.2.2.2 + 11) S [.ref (yA Y 72), .int (iI j), .int (iI u), .ref (yA Y 91)] (wP (cd_jewelOf (vw S 0) j u) (vl_jewelOf (vw S 0) j u) (fun S' => S' = S) (fun S' => S' = S)) := by
  refine gVH_of (by decide) (Nat.le_of_ble_eq_true rfl) ?_
  intro X hXl B tab hcap Z
  subst hXl
  show gW Y X S 0 [(0, .ref (yA Y 72)), (1, .int (iI j)), (2, .int (iI u)), (3, .ref (yA Y 91))] []
  refine g_aload_n (q := 1) B dL_jewelOf_0 rfl 3 rfl ?_
  refine g_iconst (q := 2) B dL_jewelOf_1 rfl ?_
  refine g_aload_n (q := 3) B dL_jewelOf_2 rfl 0 rfl ?_
  refine g_iload_n (q := 4) B dL_jewelOf_3 rfl 1 rfl ?_
  refine g_iload_n (q := 5) B dL_jewelOf_4 rfl 2 rfl ?_
  refine g_callX (As := [.int (iI j), .int (iI u)]) (st := [.int (iI 0), .ref (yA Y 91)]) B dL_jewelOf_5 (c_X7_jewelOf (Y := Y) (l := xL X) (S := S) hst hw j hj u hu) eX7_jewelOf w631 (Nat.le_refl _) rfl rfl (Nat.le_of_ble_eq_true rfl) (by rw [hcap.1]; exact hcap.2.2.1) (by rw [hcap.2.1]; exact hcap.2.2.2) (fun v Sv hv => ?_) (fun Ex Sv hx => ?_)
  · obtain ⟨hcz, rfl, hPz⟩ := hv
    have B2 := gB_up B (by rw [hcap.1]; exact hcap.2.2.1) (by rw [hcap.2.1]; exact hcap.2.2.2)
    have Z2 : gZ Y (xUp X) (wP (cd_jewelOf (vw S 0) j u) (vl_jewelOf (vw S 0) j u) (fun S' => S' = S) (fun S' => S' = S)) := ⟨Z.1, by show xCells X + 1 ≤ 1; rw [hcap.1]; decide, by show xSlots X + 6 ≤ 6; rw [hcap.2.1]; decide⟩
    refine g_i2lN (q := 9) B2 dL_jewelOf_8 rfl ?_
    refine g_last (n := 91) (q := 10) B2 dL_jewelOf_9 rfl rfl (fun _ => rfl) (by decide) (by decide) (by decide) ?_
    refine g_goto (q := 21) B2 dL_jewelOf_10 (by decide) ?_
    refine g_iconst (q := 22) B2 dL_jewelOf_21 rfl ?_
    exact gz_iret B2 Z2 dL_jewelOf_22 ⟨by rw [hcz], Or.inl ⟨hcz, Sv, hPz, rfl⟩⟩
  · obtain ⟨jz, hcz, hjz, hPz⟩ := hx
    have B2 := gB_up B (by rw [hcap.1]; exact hcap.2.2.1) (by rw [hcap.2.1]; exact hcap.2.2.2)
    have Z2 : gZ Y (xUp X) (wP (cd_jewelOf (vw S 0) j u) (vl_jewelOf (vw S 0) j u) (fun S' => S' = S) (fun S' => S' = S)) := ⟨Z.1, by show xCells X + 1 ≤ 1; rw [hcap.1]; decide, by show xSlots X + 6 ≤ 6; rw [hcap.2.1]; decide⟩
    rcases jz with _ | _ | jz
    · cases hjz
      refine g_catch B2 [] ⟨0, 10, 13, 28⟩ [⟨0, 10, 17, 13⟩] tab (fun z hz => absurd hz List.not_mem_nil) (by decide) (by decide) wl_I (by decide) (fun q9 => ?_)
      show gW Y (xUp X) Sv 13 [(0, .ref (yA Y 72)), (1, .int (iI j)), (2, .int (iI u)), (3, .ref (yA Y 91))] [.ref q9]
      refine g_astore (q := 15) B2 dL_jewelOf_13 rfl (by decide) (L' := [(4, .ref q9), (0, .ref (yA Y 72)), (1, .int (iI j)), (2, .int (iI u)), (3, .ref (yA Y 91))]) rfl ?_
      refine g_iconst (q := 16) B2 dL_jewelOf_15 rfl ?_
      exact gz_iret B2 Z2 dL_jewelOf_16 ⟨by rw [hcz]; rfl, Or.inr ⟨by rw [hcz]; decide, hPz⟩⟩
    · cases hjz
      refine g_catch B2 [⟨0, 10, 13, 28⟩] ⟨0, 10, 17, 13⟩ [] tab (fun z hz => by cases List.mem_singleton.mp hz; exact ⟨by decide, eI, wl_I, by decide⟩) (by decide) (by decide) wl_A (by decide) (fun q9 => ?_)
      show gW Y (xUp X) Sv 17 [(0, .ref (yA Y 72)), (1, .int (iI j)), (2, .int (iI u)), (3, .ref (yA Y 91))] [.ref q9]
      refine g_astore (q := 19) B2 dL_jewelOf_17 rfl (by decide) (L' := [(4, .ref q9), (0, .ref (yA Y 72)), (1, .int (iI j)), (2, .int (iI u)), (3, .ref (yA Y 91))]) rfl ?_
      refine g_iconst (q := 20) B2 dL_jewelOf_19 rfl ?_
      exact gz_iret B2 Z2 dL_jewelOf_20 ⟨by rw [hcz]; rfl, Or.inr ⟨by rw [hcz]; decide, hPz⟩⟩
    · cases hjz

set_option maxHeartbeats 4000000 in
theorem c_L_placeOf {Y : gY} {l : Launch} {S : SS} (hst : l.stackTraces = false) (hw : wf (vw S 0)) (p : Int) (hp : rI p) (u : Int) (hu : rI u) : gVH Y l yL_placeOf cL_placeOf 5 [(0, 10, 13, 28), (0, 10, 17, 13)] (mX7_placeOf.2.2.2.2 + 11) S [.ref (yA Y 72), .int (iI p), .int (iI u), .ref (yA Y 91)] (wP (cd_placeOf (vw S 0) p u) (vl_placeOf (vw S 0) p u) (fun S' => S' = S) (fun S' => S' = S)) := by
  refine gVH_of (by decide) (Nat.le_of_ble_eq_true rfl) ?_
  intro X hXl B tab hcap Z
  subst hXl
  show gW Y X S 0 [(0, .ref (yA Y 72)), (1, .int (iI p)), (2, .int (iI u)), (3, .ref (yA Y 91))] []
  refine g_aload_n (q := 1) B dL_placeOf_0 rfl 3 rfl ?_
  refine g_iconst (q := 2) B dL_placeOf_1 rfl ?_
  refine g_aload_n (q := 3) B dL_placeOf_2 rfl 0 rfl ?_
  refine g_iload_n (q := 4) B dL_placeOf_3 rfl 1 rfl ?_
  refine g_iload_n (q := 5) B dL_placeOf_4 rfl 2 rfl ?_
  refine g_callX (As := [.int (iI p), .int (iI u)]) (st := [.int (iI 0), .ref (yA Y 91)]) B dL_placeOf_5 (c_X7_placeOf (Y := Y) (l := xL X) (S := S) hst hw p hp u hu) eX7_placeOf w662 (Nat.le_refl _) rfl rfl (Nat.le_of_ble_eq_true rfl) (by rw [hcap.1]; exact hcap.2.2.1) (by rw [hcap.2.1]; exact hcap.2.2.2) (fun v Sv hv => ?_) (fun Ex Sv hx => ?_)
  · obtain ⟨hcz, rfl, hPz⟩ := hv
    have B2 := gB_up B (by rw [hcap.1]; exact hcap.2.2.1) (by rw [hcap.2.1]; exact hcap.2.2.2)
    have Z2 : gZ Y (xUp X) (wP (cd_placeOf (vw S 0) p u) (vl_placeOf (vw S 0) p u) (fun S' => S' = S) (fun S' => S' = S)) := ⟨Z.1, by show xCells X + 1 ≤ 1; rw [hcap.1]; decide, by show xSlots X + 6 ≤ 6; rw [hcap.2.1]; decide⟩
    refine g_i2lN (q := 9) B2 dL_placeOf_8 rfl ?_
    refine g_last (n := 91) (q := 10) B2 dL_placeOf_9 rfl rfl (fun _ => rfl) (by decide) (by decide) (by decide) ?_
    refine g_goto (q := 21) B2 dL_placeOf_10 (by decide) ?_
    refine g_iconst (q := 22) B2 dL_placeOf_21 rfl ?_
    exact gz_iret B2 Z2 dL_placeOf_22 ⟨by rw [hcz], Or.inl ⟨hcz, Sv, hPz, rfl⟩⟩
  · obtain ⟨jz, hcz, hjz, hPz⟩ := hx
    have B2 := gB_up B (by rw [hcap.1]; exact hcap.2.2.1) (by rw [hcap.2.1]; exact hcap.2.2.2)
    have Z2 : gZ Y (xUp X) (wP (cd_placeOf (vw S 0) p u) (vl_placeOf (vw S 0) p u) (fun S' => S' = S) (fun S' => S' = S)) := ⟨Z.1, by show xCells X + 1 ≤ 1; rw [hcap.1]; decide, by show xSlots X + 6 ≤ 6; rw [hcap.2.1]; decide⟩
    rcases jz with _ | _ | jz
    · cases hjz
      refine g_catch B2 [] ⟨0, 10, 13, 28⟩ [⟨0, 10, 17, 13⟩] tab (fun z hz => absurd hz List.not_mem_nil) (by decide) (by decide) wl_I (by decide) (fun q9 => ?_)
      show gW Y (xUp X) Sv 13 [(0, .ref (yA Y 72)), (1, .int (iI p)), (2, .int (iI u)), (3, .ref (yA Y 91))] [.ref q9]
      refine g_astore (q := 15) B2 dL_placeOf_13 rfl (by decide) (L' := [(4, .ref q9), (0, .ref (yA Y 72)), (1, .int (iI p)), (2, .int (iI u)), (3, .ref (yA Y 91))]) rfl ?_
      refine g_iconst (q := 16) B2 dL_placeOf_15 rfl ?_
      exact gz_iret B2 Z2 dL_placeOf_16 ⟨by rw [hcz]; rfl, Or.inr ⟨by rw [hcz]; decide, hPz⟩⟩
    · cases hjz
      refine g_catch B2 [⟨0, 10, 13, 28⟩] ⟨0, 10, 17, 13⟩ [] tab (fun z hz => by cases List.mem_singleton.mp hz; exact ⟨by decide, eI, wl_I, by decide⟩) (by decide) (by decide) wl_A (by decide) (fun q9 => ?_)
      show gW Y (xUp X) Sv 17 [(0, .ref (yA Y 72)), (1, .int (iI p)), (2, .int (iI u)), (3, .ref (yA Y 91))] [.ref q9]
      refine g_astore (q := 19) B2 dL_placeOf_17 rfl (by decide) (L' := [(4, .ref q9), (0, .ref (yA Y 72)), (1, .int (iI p)), (2, .int (iI u)), (3, .ref (yA Y 91))]) rfl ?_
      refine g_iconst (q := 20) B2 dL_placeOf_19 rfl ?_
      exact gz_iret B2 Z2 dL_placeOf_20 ⟨by rw [hcz]; rfl, Or.inr ⟨by rw [hcz]; decide, hPz⟩⟩
    · cases hjz

set_option maxHeartbeats 4000000 in
theorem c_L_runOf {Y : gY} {l : Launch} {S : SS} (hst : l.stackTraces = false) (hw : wf (vw S 0)) (r : Int) (hr : rI r) (u : Int) (hu : rI u) : gVH Y l yL_runOf cL_runOf 5 [(0, 10, 13, 28), (0, 10, 17, 13)] (mX7_runOf.2.2.2.2 + 11) S [.ref (yA Y 72), .int (iI r), .int (iI u), .ref (yA Y 91)] (wP (cd_runOf (vw S 0) r u) (vl_runOf (vw S 0) r u) (fun S' => S' = S) (fun S' => S' = S)) := by
  refine gVH_of (by decide) (Nat.le_of_ble_eq_true rfl) ?_
  intro X hXl B tab hcap Z
  subst hXl
  show gW Y X S 0 [(0, .ref (yA Y 72)), (1, .int (iI r)), (2, .int (iI u)), (3, .ref (yA Y 91))] []
  refine g_aload_n (q := 1) B dL_runOf_0 rfl 3 rfl ?_
  refine g_iconst (q := 2) B dL_runOf_1 rfl ?_
  refine g_aload_n (q := 3) B dL_runOf_2 rfl 0 rfl ?_
  refine g_iload_n (q := 4) B dL_runOf_3 rfl 1 rfl ?_
  refine g_iload_n (q := 5) B dL_runOf_4 rfl 2 rfl ?_
  refine g_callX (As := [.int (iI r), .int (iI u)]) (st := [.int (iI 0), .ref (yA Y 91)]) B dL_runOf_5 (c_X7_runOf (Y := Y) (l := xL X) (S := S) hst hw r hr u hu) eX7_runOf w679 (Nat.le_refl _) rfl rfl (Nat.le_of_ble_eq_true rfl) (by rw [hcap.1]; exact hcap.2.2.1) (by rw [hcap.2.1]; exact hcap.2.2.2) (fun v Sv hv => ?_) (fun Ex Sv hx => ?_)
  · obtain ⟨hcz, rfl, hPz⟩ := hv
    have B2 := gB_up B (by rw [hcap.1]; exact hcap.2.2.1) (by rw [hcap.2.1]; exact hcap.2.2.2)
    have Z2 : gZ Y (xUp X) (wP (cd_runOf (vw S 0) r u) (vl_runOf (vw S 0) r u) (fun S' => S' = S) (fun S' => S' = S)) := ⟨Z.1, by show xCells X + 1 ≤ 1; rw [hcap.1]; decide, by show xSlots X + 6 ≤ 6; rw [hcap.2.1]; decide⟩
    refine g_i2lN (q := 9) B2 dL_runOf_8 rfl ?_
    refine g_last (n := 91) (q := 10) B2 dL_runOf_9 rfl rfl (fun _ => rfl) (by decide) (by decide) (by decide) ?_
    refine g_goto (q := 21) B2 dL_runOf_10 (by decide) ?_
    refine g_iconst (q := 22) B2 dL_runOf_21 rfl ?_
    exact gz_iret B2 Z2 dL_runOf_22 ⟨by rw [hcz], Or.inl ⟨hcz, Sv, hPz, rfl⟩⟩
  · obtain ⟨jz, hcz, hjz, hPz⟩ := hx
    have B2 := gB_up B (by rw [hcap.1]; exact hcap.2.2.1) (by rw [hcap.2.1]; exact hcap.2.2.2)
    have Z2 : gZ Y (xUp X) (wP (cd_runOf (vw S 0) r u) (vl_runOf (vw S 0) r u) (fun S' => S' = S) (fun S' => S' = S)) := ⟨Z.1, by show xCells X + 1 ≤ 1; rw [hcap.1]; decide, by show xSlots X + 6 ≤ 6; rw [hcap.2.1]; decide⟩
    rcases jz with _ | _ | jz
    · cases hjz
      refine g_catch B2 [] ⟨0, 10, 13, 28⟩ [⟨0, 10, 17, 13⟩] tab (fun z hz => absurd hz List.not_mem_nil) (by decide) (by decide) wl_I (by decide) (fun q9 => ?_)
      show gW Y (xUp X) Sv 13 [(0, .ref (yA Y 72)), (1, .int (iI r)), (2, .int (iI u)), (3, .ref (yA Y 91))] [.ref q9]
      refine g_astore (q := 15) B2 dL_runOf_13 rfl (by decide) (L' := [(4, .ref q9), (0, .ref (yA Y 72)), (1, .int (iI r)), (2, .int (iI u)), (3, .ref (yA Y 91))]) rfl ?_
      refine g_iconst (q := 16) B2 dL_runOf_15 rfl ?_
      exact gz_iret B2 Z2 dL_runOf_16 ⟨by rw [hcz]; rfl, Or.inr ⟨by rw [hcz]; decide, hPz⟩⟩
    · cases hjz
      refine g_catch B2 [⟨0, 10, 13, 28⟩] ⟨0, 10, 17, 13⟩ [] tab (fun z hz => by cases List.mem_singleton.mp hz; exact ⟨by decide, eI, wl_I, by decide⟩) (by decide) (by decide) wl_A (by decide) (fun q9 => ?_)
      show gW Y (xUp X) Sv 17 [(0, .ref (yA Y 72)), (1, .int (iI r)), (2, .int (iI u)), (3, .ref (yA Y 91))] [.ref q9]
      refine g_astore (q := 19) B2 dL_runOf_17 rfl (by decide) (L' := [(4, .ref q9), (0, .ref (yA Y 72)), (1, .int (iI r)), (2, .int (iI u)), (3, .ref (yA Y 91))]) rfl ?_
      refine g_iconst (q := 20) B2 dL_runOf_19 rfl ?_
      exact gz_iret B2 Z2 dL_runOf_20 ⟨by rw [hcz]; rfl, Or.inr ⟨by rw [hcz]; decide, hPz⟩⟩
    · cases hjz

set_option maxHeartbeats 4000000 in
theorem c_L_has {Y : gY} {l : Launch} {S : SS} (hst : l.stackTraces = false) (hw : wf (vw S 0)) (s : Int) (hs : rI s) (k : Int) (hk : rI k) : gVH Y l yL_has cL_has 5 [(0, 10, 13, 28)] (mX7_has.2.2.2.2 + 11) S [.ref (yA Y 72), .int (iI s), .int (iI k), .ref (yA Y 91)] (wP (cd_has s k) (hasF (vw S 0) s k) (fun S' => S' = S) (fun S' => S' = S)) := by
  refine gVH_of (by decide) (Nat.le_of_ble_eq_true rfl) ?_
  intro X hXl B tab hcap Z
  subst hXl
  show gW Y X S 0 [(0, .ref (yA Y 72)), (1, .int (iI s)), (2, .int (iI k)), (3, .ref (yA Y 91))] []
  refine g_aload_n (q := 1) B dL_has_0 rfl 3 rfl ?_
  refine g_iconst (q := 2) B dL_has_1 rfl ?_
  refine g_aload_n (q := 3) B dL_has_2 rfl 0 rfl ?_
  refine g_iload_n (q := 4) B dL_has_3 rfl 1 rfl ?_
  refine g_iload_n (q := 5) B dL_has_4 rfl 2 rfl ?_
  refine g_callX (As := [.int (iI s), .int (iI k)]) (st := [.int (iI 0), .ref (yA Y 91)]) B dL_has_5 (c_X7_has (Y := Y) (l := xL X) (S := S) hst hw s hs k hk) eX7_has w697 (Nat.le_refl _) rfl rfl (Nat.le_of_ble_eq_true rfl) (by rw [hcap.1]; exact hcap.2.2.1) (by rw [hcap.2.1]; exact hcap.2.2.2) (fun v Sv hv => ?_) (fun Ex Sv hx => ?_)
  · obtain ⟨hcz, rfl, hPz⟩ := hv
    have B2 := gB_up B (by rw [hcap.1]; exact hcap.2.2.1) (by rw [hcap.2.1]; exact hcap.2.2.2)
    have Z2 : gZ Y (xUp X) (wP (cd_has s k) (hasF (vw S 0) s k) (fun S' => S' = S) (fun S' => S' = S)) := ⟨Z.1, by show xCells X + 1 ≤ 1; rw [hcap.1]; decide, by show xSlots X + 6 ≤ 6; rw [hcap.2.1]; decide⟩
    refine g_i2lN (q := 9) B2 dL_has_8 rfl ?_
    refine g_last (n := 91) (q := 10) B2 dL_has_9 rfl rfl (fun _ => rfl) (by decide) (by decide) (by decide) ?_
    refine g_goto (q := 17) B2 dL_has_10 (by decide) ?_
    refine g_iconst (q := 18) B2 dL_has_17 rfl ?_
    exact gz_iret B2 Z2 dL_has_18 ⟨by rw [hcz], Or.inl ⟨hcz, Sv, hPz, rfl⟩⟩
  · obtain ⟨jz, hcz, hjz, hPz⟩ := hx
    have B2 := gB_up B (by rw [hcap.1]; exact hcap.2.2.1) (by rw [hcap.2.1]; exact hcap.2.2.2)
    have Z2 : gZ Y (xUp X) (wP (cd_has s k) (hasF (vw S 0) s k) (fun S' => S' = S) (fun S' => S' = S)) := ⟨Z.1, by show xCells X + 1 ≤ 1; rw [hcap.1]; decide, by show xSlots X + 6 ≤ 6; rw [hcap.2.1]; decide⟩
    rcases jz with _ | jz
    · cases hjz
      refine g_catch B2 [] ⟨0, 10, 13, 28⟩ [] tab (fun z hz => absurd hz List.not_mem_nil) (by decide) (by decide) wl_I (by decide) (fun q9 => ?_)
      show gW Y (xUp X) Sv 13 [(0, .ref (yA Y 72)), (1, .int (iI s)), (2, .int (iI k)), (3, .ref (yA Y 91))] [.ref q9]
      refine g_astore (q := 15) B2 dL_has_13 rfl (by decide) (L' := [(4, .ref q9), (0, .ref (yA Y 72)), (1, .int (iI s)), (2, .int (iI k)), (3, .ref (yA Y 91))]) rfl ?_
      refine g_iconst (q := 16) B2 dL_has_15 rfl ?_
      exact gz_iret B2 Z2 dL_has_16 ⟨by rw [hcz]; rfl, Or.inr ⟨by rw [hcz]; decide, hPz⟩⟩
    · cases hjz

set_option maxHeartbeats 4000000 in
theorem c_L_jewel {Y : gY} {l : Launch} {S : SS} (hst : l.stackTraces = false) (hw : wf (vw S 0)) (hnx : 0 ≤ S 75 0 ∧ S 75 0 < 14) (hct : 0 ≤ S 75 1 ∧ S 75 1 ≤ 14) (k : Int) (hk : rI k) (u : Int) (hu : rI u) : gVH Y l yL_jewel cL_jewel 5 [(0, 10, 13, 28), (0, 10, 17, 13), (0, 10, 21, 15)] (mX7_jewel.2.2.2.2 + 11) S [.ref (yA Y 72), .int (iI k), .int (iI u), .ref (yA Y 91)] (wP (cd_jewel (vw S 0) k u) (S (4 * 0) 0) (fun S' => chP S S' (addG (vw S 0) k u)) (fun S' => S' = S)) := by
  refine gVH_of (by decide) (Nat.le_of_ble_eq_true rfl) ?_
  intro X hXl B tab hcap Z
  subst hXl
  show gW Y X S 0 [(0, .ref (yA Y 72)), (1, .int (iI k)), (2, .int (iI u)), (3, .ref (yA Y 91))] []
  refine g_aload_n (q := 1) B dL_jewel_0 rfl 3 rfl ?_
  refine g_iconst (q := 2) B dL_jewel_1 rfl ?_
  refine g_aload_n (q := 3) B dL_jewel_2 rfl 0 rfl ?_
  refine g_iload_n (q := 4) B dL_jewel_3 rfl 1 rfl ?_
  refine g_iload_n (q := 5) B dL_jewel_4 rfl 2 rfl ?_
  refine g_callX (As := [.int (iI k), .int (iI u)]) (st := [.int (iI 0), .ref (yA Y 91)]) B dL_jewel_5 (c_X7_jewel (Y := Y) (l := xL X) (S := S) hst hw hnx hct k hk u hu) eX7_jewel w707 (Nat.le_refl _) rfl rfl (Nat.le_of_ble_eq_true rfl) (by rw [hcap.1]; exact hcap.2.2.1) (by rw [hcap.2.1]; exact hcap.2.2.2) (fun v Sv hv => ?_) (fun Ex Sv hx => ?_)
  · obtain ⟨hcz, rfl, hPz⟩ := hv
    have B2 := gB_up B (by rw [hcap.1]; exact hcap.2.2.1) (by rw [hcap.2.1]; exact hcap.2.2.2)
    have Z2 : gZ Y (xUp X) (wP (cd_jewel (vw S 0) k u) (S (4 * 0) 0) (fun S' => chP S S' (addG (vw S 0) k u)) (fun S' => S' = S)) := ⟨Z.1, by show xCells X + 1 ≤ 1; rw [hcap.1]; decide, by show xSlots X + 6 ≤ 6; rw [hcap.2.1]; decide⟩
    refine g_i2lN (q := 9) B2 dL_jewel_8 rfl ?_
    refine g_last (n := 91) (q := 10) B2 dL_jewel_9 rfl rfl (fun _ => rfl) (by decide) (by decide) (by decide) ?_
    refine g_goto (q := 25) B2 dL_jewel_10 (by decide) ?_
    refine g_iconst (q := 26) B2 dL_jewel_25 rfl ?_
    exact gz_iret B2 Z2 dL_jewel_26 ⟨by rw [hcz], Or.inl ⟨hcz, Sv, hPz, rfl⟩⟩
  · obtain ⟨jz, hcz, hjz, hPz⟩ := hx
    have B2 := gB_up B (by rw [hcap.1]; exact hcap.2.2.1) (by rw [hcap.2.1]; exact hcap.2.2.2)
    have Z2 : gZ Y (xUp X) (wP (cd_jewel (vw S 0) k u) (S (4 * 0) 0) (fun S' => chP S S' (addG (vw S 0) k u)) (fun S' => S' = S)) := ⟨Z.1, by show xCells X + 1 ≤ 1; rw [hcap.1]; decide, by show xSlots X + 6 ≤ 6; rw [hcap.2.1]; decide⟩
    rcases jz with _ | _ | _ | jz
    · cases hjz
      refine g_catch B2 [] ⟨0, 10, 13, 28⟩ [⟨0, 10, 17, 13⟩, ⟨0, 10, 21, 15⟩] tab (fun z hz => absurd hz List.not_mem_nil) (by decide) (by decide) wl_I (by decide) (fun q9 => ?_)
      show gW Y (xUp X) Sv 13 [(0, .ref (yA Y 72)), (1, .int (iI k)), (2, .int (iI u)), (3, .ref (yA Y 91))] [.ref q9]
      refine g_astore (q := 15) B2 dL_jewel_13 rfl (by decide) (L' := [(4, .ref q9), (0, .ref (yA Y 72)), (1, .int (iI k)), (2, .int (iI u)), (3, .ref (yA Y 91))]) rfl ?_
      refine g_iconst (q := 16) B2 dL_jewel_15 rfl ?_
      exact gz_iret B2 Z2 dL_jewel_16 ⟨by rw [hcz]; rfl, Or.inr ⟨by rw [hcz]; decide, hPz⟩⟩
    · cases hjz
      refine g_catch B2 [⟨0, 10, 13, 28⟩] ⟨0, 10, 17, 13⟩ [⟨0, 10, 21, 15⟩] tab (fun z hz => by cases List.mem_singleton.mp hz; exact ⟨by decide, eI, wl_I, by decide⟩) (by decide) (by decide) wl_A (by decide) (fun q9 => ?_)
      show gW Y (xUp X) Sv 17 [(0, .ref (yA Y 72)), (1, .int (iI k)), (2, .int (iI u)), (3, .ref (yA Y 91))] [.ref q9]
      refine g_astore (q := 19) B2 dL_jewel_17 rfl (by decide) (L' := [(4, .ref q9), (0, .ref (yA Y 72)), (1, .int (iI k)), (2, .int (iI u)), (3, .ref (yA Y 91))]) rfl ?_
      refine g_iconst (q := 20) B2 dL_jewel_19 rfl ?_
      exact gz_iret B2 Z2 dL_jewel_20 ⟨by rw [hcz]; rfl, Or.inr ⟨by rw [hcz]; decide, hPz⟩⟩
    · cases hjz
      refine g_catch B2 [⟨0, 10, 13, 28⟩, ⟨0, 10, 17, 13⟩] ⟨0, 10, 21, 15⟩ [] tab (fun z hz => by rcases List.mem_cons.mp hz with rfl | hz2; exact ⟨by decide, eI, wl_I, by decide⟩; cases List.mem_singleton.mp hz2; exact ⟨by decide, eA, wl_A, by decide⟩) (by decide) (by decide) wl_S (by decide) (fun q9 => ?_)
      show gW Y (xUp X) Sv 21 [(0, .ref (yA Y 72)), (1, .int (iI k)), (2, .int (iI u)), (3, .ref (yA Y 91))] [.ref q9]
      refine g_astore (q := 23) B2 dL_jewel_21 rfl (by decide) (L' := [(4, .ref q9), (0, .ref (yA Y 72)), (1, .int (iI k)), (2, .int (iI u)), (3, .ref (yA Y 91))]) rfl ?_
      refine g_iconst (q := 24) B2 dL_jewel_23 rfl ?_
      exact gz_iret B2 Z2 dL_jewel_24 ⟨by rw [hcz]; rfl, Or.inr ⟨by rw [hcz]; decide, hPz⟩⟩
    · cases hjz

set_option maxHeartbeats 4000000 in
theorem c_L_exchange {Y : gY} {l : Launch} {S : SS} (hst : l.stackTraces = false) (hw : wf (vw S 0)) (hnx : 0 ≤ S 75 0 ∧ S 75 0 < 14) (hct : 0 ≤ S 75 1 ∧ S 75 1 ≤ 14) (i : Int) (hi : rI i) (j : Int) (hj : rI j) : gVH Y l yL_exchange cL_exchange 5 [(0, 10, 13, 28)] (mX7_exchange.2.2.2.2 + 11) S [.ref (yA Y 72), .int (iI i), .int (iI j), .ref (yA Y 91)] (wP (cd_exchange (vw S 0) i j) (gapF (swapG (vw S 0) i j)) (fun S' => chP S S' (swapG (vw S 0) i j)) (fun S' => S' = S)) := by
  refine gVH_of (by decide) (Nat.le_of_ble_eq_true rfl) ?_
  intro X hXl B tab hcap Z
  subst hXl
  show gW Y X S 0 [(0, .ref (yA Y 72)), (1, .int (iI i)), (2, .int (iI j)), (3, .ref (yA Y 91))] []
  refine g_aload_n (q := 1) B dL_exchange_0 rfl 3 rfl ?_
  refine g_iconst (q := 2) B dL_exchange_1 rfl ?_
  refine g_aload_n (q := 3) B dL_exchange_2 rfl 0 rfl ?_
  refine g_iload_n (q := 4) B dL_exchange_3 rfl 1 rfl ?_
  refine g_iload_n (q := 5) B dL_exchange_4 rfl 2 rfl ?_
  refine g_callX (As := [.int (iI i), .int (iI j)]) (st := [.int (iI 0), .ref (yA Y 91)]) B dL_exchange_5 (c_X7_exchange (Y := Y) (l := xL X) (S := S) hst hw hnx hct i hi j hj) eX7_exchange w719 (Nat.le_refl _) rfl rfl (Nat.le_of_ble_eq_true rfl) (by rw [hcap.1]; exact hcap.2.2.1) (by rw [hcap.2.1]; exact hcap.2.2.2) (fun v Sv hv => ?_) (fun Ex Sv hx => ?_)
  · obtain ⟨hcz, rfl, hPz⟩ := hv
    have B2 := gB_up B (by rw [hcap.1]; exact hcap.2.2.1) (by rw [hcap.2.1]; exact hcap.2.2.2)
    have Z2 : gZ Y (xUp X) (wP (cd_exchange (vw S 0) i j) (gapF (swapG (vw S 0) i j)) (fun S' => chP S S' (swapG (vw S 0) i j)) (fun S' => S' = S)) := ⟨Z.1, by show xCells X + 1 ≤ 1; rw [hcap.1]; decide, by show xSlots X + 6 ≤ 6; rw [hcap.2.1]; decide⟩
    refine g_i2lN (q := 9) B2 dL_exchange_8 rfl ?_
    refine g_last (n := 91) (q := 10) B2 dL_exchange_9 rfl rfl (fun _ => rfl) (by decide) (by decide) (by decide) ?_
    refine g_goto (q := 17) B2 dL_exchange_10 (by decide) ?_
    refine g_iconst (q := 18) B2 dL_exchange_17 rfl ?_
    exact gz_iret B2 Z2 dL_exchange_18 ⟨by rw [hcz], Or.inl ⟨hcz, Sv, hPz, rfl⟩⟩
  · obtain ⟨jz, hcz, hjz, hPz⟩ := hx
    have B2 := gB_up B (by rw [hcap.1]; exact hcap.2.2.1) (by rw [hcap.2.1]; exact hcap.2.2.2)
    have Z2 : gZ Y (xUp X) (wP (cd_exchange (vw S 0) i j) (gapF (swapG (vw S 0) i j)) (fun S' => chP S S' (swapG (vw S 0) i j)) (fun S' => S' = S)) := ⟨Z.1, by show xCells X + 1 ≤ 1; rw [hcap.1]; decide, by show xSlots X + 6 ≤ 6; rw [hcap.2.1]; decide⟩
    rcases jz with _ | jz
    · cases hjz
      refine g_catch B2 [] ⟨0, 10, 13, 28⟩ [] tab (fun z hz => absurd hz List.not_mem_nil) (by decide) (by decide) wl_I (by decide) (fun q9 => ?_)
      show gW Y (xUp X) Sv 13 [(0, .ref (yA Y 72)), (1, .int (iI i)), (2, .int (iI j)), (3, .ref (yA Y 91))] [.ref q9]
      refine g_astore (q := 15) B2 dL_exchange_13 rfl (by decide) (L' := [(4, .ref q9), (0, .ref (yA Y 72)), (1, .int (iI i)), (2, .int (iI j)), (3, .ref (yA Y 91))]) rfl ?_
      refine g_iconst (q := 16) B2 dL_exchange_15 rfl ?_
      exact gz_iret B2 Z2 dL_exchange_16 ⟨by rw [hcz]; rfl, Or.inr ⟨by rw [hcz]; decide, hPz⟩⟩
    · cases hjz

set_option maxHeartbeats 4000000 in
theorem c_L_breakAt {Y : gY} {l : Launch} {S : SS} (hst : l.stackTraces = false) (hw : wf (vw S 0)) (hnx : 0 ≤ S 75 0 ∧ S 75 0 < 14) (hct : 0 ≤ S 75 1 ∧ S 75 1 ≤ 14) (j : Int) (hj : rI j) : gVH Y l yL_breakAt cL_breakAt 4 [(0, 9, 12, 28)] (mX7_breakAt.2.2.2.2 + 11) S [.ref (yA Y 72), .int (iI j), .ref (yA Y 91)] (wP (cd_breakAt (vw S 0) j) (S (4 * 0) 1) (fun S' => chP S S' (brkG (vw S 0) j)) (fun S' => S' = S)) := by
  refine gVH_of (by decide) (Nat.le_of_ble_eq_true rfl) ?_
  intro X hXl B tab hcap Z
  subst hXl
  show gW Y X S 0 [(0, .ref (yA Y 72)), (1, .int (iI j)), (2, .ref (yA Y 91))] []
  refine g_aload_n (q := 1) B dL_breakAt_0 rfl 2 rfl ?_
  refine g_iconst (q := 2) B dL_breakAt_1 rfl ?_
  refine g_aload_n (q := 3) B dL_breakAt_2 rfl 0 rfl ?_
  refine g_iload_n (q := 4) B dL_breakAt_3 rfl 1 rfl ?_
  refine g_callX (As := [.int (iI j)]) (st := [.int (iI 0), .ref (yA Y 91)]) B dL_breakAt_4 (c_X7_breakAt (Y := Y) (l := xL X) (S := S) hst hw hnx hct j hj) eX7_breakAt w727 (Nat.le_refl _) rfl rfl (Nat.le_of_ble_eq_true rfl) (by rw [hcap.1]; exact hcap.2.2.1) (by rw [hcap.2.1]; exact hcap.2.2.2) (fun v Sv hv => ?_) (fun Ex Sv hx => ?_)
  · obtain ⟨hcz, rfl, hPz⟩ := hv
    have B2 := gB_up B (by rw [hcap.1]; exact hcap.2.2.1) (by rw [hcap.2.1]; exact hcap.2.2.2)
    have Z2 : gZ Y (xUp X) (wP (cd_breakAt (vw S 0) j) (S (4 * 0) 1) (fun S' => chP S S' (brkG (vw S 0) j)) (fun S' => S' = S)) := ⟨Z.1, by show xCells X + 1 ≤ 1; rw [hcap.1]; decide, by show xSlots X + 6 ≤ 6; rw [hcap.2.1]; decide⟩
    refine g_i2lN (q := 8) B2 dL_breakAt_7 rfl ?_
    refine g_last (n := 91) (q := 9) B2 dL_breakAt_8 rfl rfl (fun _ => rfl) (by decide) (by decide) (by decide) ?_
    refine g_goto (q := 15) B2 dL_breakAt_9 (by decide) ?_
    refine g_iconst (q := 16) B2 dL_breakAt_15 rfl ?_
    exact gz_iret B2 Z2 dL_breakAt_16 ⟨by rw [hcz], Or.inl ⟨hcz, Sv, hPz, rfl⟩⟩
  · obtain ⟨jz, hcz, hjz, hPz⟩ := hx
    have B2 := gB_up B (by rw [hcap.1]; exact hcap.2.2.1) (by rw [hcap.2.1]; exact hcap.2.2.2)
    have Z2 : gZ Y (xUp X) (wP (cd_breakAt (vw S 0) j) (S (4 * 0) 1) (fun S' => chP S S' (brkG (vw S 0) j)) (fun S' => S' = S)) := ⟨Z.1, by show xCells X + 1 ≤ 1; rw [hcap.1]; decide, by show xSlots X + 6 ≤ 6; rw [hcap.2.1]; decide⟩
    rcases jz with _ | jz
    · cases hjz
      refine g_catch B2 [] ⟨0, 9, 12, 28⟩ [] tab (fun z hz => absurd hz List.not_mem_nil) (by decide) (by decide) wl_I (by decide) (fun q9 => ?_)
      show gW Y (xUp X) Sv 12 [(0, .ref (yA Y 72)), (1, .int (iI j)), (2, .ref (yA Y 91))] [.ref q9]
      refine g_astore_n (q := 13) B2 dL_breakAt_12 rfl (by decide) (L' := [(3, .ref q9), (0, .ref (yA Y 72)), (1, .int (iI j)), (2, .ref (yA Y 91))]) rfl ?_
      refine g_iconst (q := 14) B2 dL_breakAt_13 rfl ?_
      exact gz_iret B2 Z2 dL_breakAt_14 ⟨by rw [hcz]; rfl, Or.inr ⟨by rw [hcz]; decide, hPz⟩⟩
    · cases hjz

set_option maxHeartbeats 4000000 in
theorem c_L_cut {Y : gY} {l : Launch} {S : SS} (hst : l.stackTraces = false) (hw : wf (vw S 0)) (hnx : 0 ≤ S 75 0 ∧ S 75 0 < 14) (hct : 0 ≤ S 75 1 ∧ S 75 1 ≤ 14) (b : Int) (hb : b = 0 ∨ b = 1) (p : Int) (hp : rI p) : gVH Y l yL_cut cL_cut 5 [(0, 10, 13, 28)] (mX7_cut.2.2.2.2 + 11) S [.ref (yA Y 72), .int (iI p), .int (iI b), .ref (yA Y 91)] (wP (cd_cut (vw S 0) p) (runsF (cutG (vw S 0) p b)) (fun S' => chP S S' (cutG (vw S 0) p b)) (fun S' => S' = S)) := by
  refine gVH_of (by decide) (Nat.le_of_ble_eq_true rfl) ?_
  intro X hXl B tab hcap Z
  subst hXl
  show gW Y X S 0 [(0, .ref (yA Y 72)), (1, .int (iI p)), (2, .int (iI b)), (3, .ref (yA Y 91))] []
  refine g_aload_n (q := 1) B dL_cut_0 rfl 3 rfl ?_
  refine g_iconst (q := 2) B dL_cut_1 rfl ?_
  refine g_aload_n (q := 3) B dL_cut_2 rfl 0 rfl ?_
  refine g_iload_n (q := 4) B dL_cut_3 rfl 1 rfl ?_
  refine g_iload_n (q := 5) B dL_cut_4 rfl 2 rfl ?_
  refine g_callX (As := [.int (iI p), .int (iI b)]) (st := [.int (iI 0), .ref (yA Y 91)]) B dL_cut_5 (c_X7_cut (Y := Y) (l := xL X) (S := S) hst hw hnx hct b hb p hp) eX7_cut w735 (Nat.le_refl _) rfl rfl (Nat.le_of_ble_eq_true rfl) (by rw [hcap.1]; exact hcap.2.2.1) (by rw [hcap.2.1]; exact hcap.2.2.2) (fun v Sv hv => ?_) (fun Ex Sv hx => ?_)
  · obtain ⟨hcz, rfl, hPz⟩ := hv
    have B2 := gB_up B (by rw [hcap.1]; exact hcap.2.2.1) (by rw [hcap.2.1]; exact hcap.2.2.2)
    have Z2 : gZ Y (xUp X) (wP (cd_cut (vw S 0) p) (runsF (cutG (vw S 0) p b)) (fun S' => chP S S' (cutG (vw S 0) p b)) (fun S' => S' = S)) := ⟨Z.1, by show xCells X + 1 ≤ 1; rw [hcap.1]; decide, by show xSlots X + 6 ≤ 6; rw [hcap.2.1]; decide⟩
    refine g_i2lN (q := 9) B2 dL_cut_8 rfl ?_
    refine g_last (n := 91) (q := 10) B2 dL_cut_9 rfl rfl (fun _ => rfl) (by decide) (by decide) (by decide) ?_
    refine g_goto (q := 17) B2 dL_cut_10 (by decide) ?_
    refine g_iconst (q := 18) B2 dL_cut_17 rfl ?_
    exact gz_iret B2 Z2 dL_cut_18 ⟨by rw [hcz], Or.inl ⟨hcz, Sv, hPz, rfl⟩⟩
  · obtain ⟨jz, hcz, hjz, hPz⟩ := hx
    have B2 := gB_up B (by rw [hcap.1]; exact hcap.2.2.1) (by rw [hcap.2.1]; exact hcap.2.2.2)
    have Z2 : gZ Y (xUp X) (wP (cd_cut (vw S 0) p) (runsF (cutG (vw S 0) p b)) (fun S' => chP S S' (cutG (vw S 0) p b)) (fun S' => S' = S)) := ⟨Z.1, by show xCells X + 1 ≤ 1; rw [hcap.1]; decide, by show xSlots X + 6 ≤ 6; rw [hcap.2.1]; decide⟩
    rcases jz with _ | jz
    · cases hjz
      refine g_catch B2 [] ⟨0, 10, 13, 28⟩ [] tab (fun z hz => absurd hz List.not_mem_nil) (by decide) (by decide) wl_I (by decide) (fun q9 => ?_)
      show gW Y (xUp X) Sv 13 [(0, .ref (yA Y 72)), (1, .int (iI p)), (2, .int (iI b)), (3, .ref (yA Y 91))] [.ref q9]
      refine g_astore (q := 15) B2 dL_cut_13 rfl (by decide) (L' := [(4, .ref q9), (0, .ref (yA Y 72)), (1, .int (iI p)), (2, .int (iI b)), (3, .ref (yA Y 91))]) rfl ?_
      refine g_iconst (q := 16) B2 dL_cut_15 rfl ?_
      exact gz_iret B2 Z2 dL_cut_16 ⟨by rw [hcz]; rfl, Or.inr ⟨by rw [hcz]; decide, hPz⟩⟩
    · cases hjz

set_option maxHeartbeats 4000000 in
theorem c_L_give {Y : gY} {l : Launch} {S : SS} (hst : l.stackTraces = false) (hw : wf (vw S 0)) (hnx : 0 ≤ S 75 0 ∧ S 75 0 < 14) (hct : 0 ≤ S 75 1 ∧ S 75 1 ≤ 14) (r : Int) (hr : rI r) (o : Int) (ho : rI o) : gVH Y l yL_give cL_give 5 [(0, 10, 13, 28), (0, 10, 17, 13)] (mX7_give.2.2.2.2 + 11) S [.ref (yA Y 72), .int (iI r), .int (iI o), .ref (yA Y 91)] (wP (cd_give (vw S 0) r o) (gapF (giveG (vw S 0) r o)) (fun S' => chP S S' (giveG (vw S 0) r o)) (fun S' => S' = S)) := by
  refine gVH_of (by decide) (Nat.le_of_ble_eq_true rfl) ?_
  intro X hXl B tab hcap Z
  subst hXl
  show gW Y X S 0 [(0, .ref (yA Y 72)), (1, .int (iI r)), (2, .int (iI o)), (3, .ref (yA Y 91))] []
  refine g_aload_n (q := 1) B dL_give_0 rfl 3 rfl ?_
  refine g_iconst (q := 2) B dL_give_1 rfl ?_
  refine g_aload_n (q := 3) B dL_give_2 rfl 0 rfl ?_
  refine g_iload_n (q := 4) B dL_give_3 rfl 1 rfl ?_
  refine g_iload_n (q := 5) B dL_give_4 rfl 2 rfl ?_
  refine g_callX (As := [.int (iI r), .int (iI o)]) (st := [.int (iI 0), .ref (yA Y 91)]) B dL_give_5 (c_X7_give (Y := Y) (l := xL X) (S := S) hst hw hnx hct r hr o ho) eX7_give w744 (Nat.le_refl _) rfl rfl (Nat.le_of_ble_eq_true rfl) (by rw [hcap.1]; exact hcap.2.2.1) (by rw [hcap.2.1]; exact hcap.2.2.2) (fun v Sv hv => ?_) (fun Ex Sv hx => ?_)
  · obtain ⟨hcz, rfl, hPz⟩ := hv
    have B2 := gB_up B (by rw [hcap.1]; exact hcap.2.2.1) (by rw [hcap.2.1]; exact hcap.2.2.2)
    have Z2 : gZ Y (xUp X) (wP (cd_give (vw S 0) r o) (gapF (giveG (vw S 0) r o)) (fun S' => chP S S' (giveG (vw S 0) r o)) (fun S' => S' = S)) := ⟨Z.1, by show xCells X + 1 ≤ 1; rw [hcap.1]; decide, by show xSlots X + 6 ≤ 6; rw [hcap.2.1]; decide⟩
    refine g_i2lN (q := 9) B2 dL_give_8 rfl ?_
    refine g_last (n := 91) (q := 10) B2 dL_give_9 rfl rfl (fun _ => rfl) (by decide) (by decide) (by decide) ?_
    refine g_goto (q := 21) B2 dL_give_10 (by decide) ?_
    refine g_iconst (q := 22) B2 dL_give_21 rfl ?_
    exact gz_iret B2 Z2 dL_give_22 ⟨by rw [hcz], Or.inl ⟨hcz, Sv, hPz, rfl⟩⟩
  · obtain ⟨jz, hcz, hjz, hPz⟩ := hx
    have B2 := gB_up B (by rw [hcap.1]; exact hcap.2.2.1) (by rw [hcap.2.1]; exact hcap.2.2.2)
    have Z2 : gZ Y (xUp X) (wP (cd_give (vw S 0) r o) (gapF (giveG (vw S 0) r o)) (fun S' => chP S S' (giveG (vw S 0) r o)) (fun S' => S' = S)) := ⟨Z.1, by show xCells X + 1 ≤ 1; rw [hcap.1]; decide, by show xSlots X + 6 ≤ 6; rw [hcap.2.1]; decide⟩
    rcases jz with _ | _ | jz
    · cases hjz
      refine g_catch B2 [] ⟨0, 10, 13, 28⟩ [⟨0, 10, 17, 13⟩] tab (fun z hz => absurd hz List.not_mem_nil) (by decide) (by decide) wl_I (by decide) (fun q9 => ?_)
      show gW Y (xUp X) Sv 13 [(0, .ref (yA Y 72)), (1, .int (iI r)), (2, .int (iI o)), (3, .ref (yA Y 91))] [.ref q9]
      refine g_astore (q := 15) B2 dL_give_13 rfl (by decide) (L' := [(4, .ref q9), (0, .ref (yA Y 72)), (1, .int (iI r)), (2, .int (iI o)), (3, .ref (yA Y 91))]) rfl ?_
      refine g_iconst (q := 16) B2 dL_give_15 rfl ?_
      exact gz_iret B2 Z2 dL_give_16 ⟨by rw [hcz]; rfl, Or.inr ⟨by rw [hcz]; decide, hPz⟩⟩
    · cases hjz
      refine g_catch B2 [⟨0, 10, 13, 28⟩] ⟨0, 10, 17, 13⟩ [] tab (fun z hz => by cases List.mem_singleton.mp hz; exact ⟨by decide, eI, wl_I, by decide⟩) (by decide) (by decide) wl_A (by decide) (fun q9 => ?_)
      show gW Y (xUp X) Sv 17 [(0, .ref (yA Y 72)), (1, .int (iI r)), (2, .int (iI o)), (3, .ref (yA Y 91))] [.ref q9]
      refine g_astore (q := 19) B2 dL_give_17 rfl (by decide) (L' := [(4, .ref q9), (0, .ref (yA Y 72)), (1, .int (iI r)), (2, .int (iI o)), (3, .ref (yA Y 91))]) rfl ?_
      refine g_iconst (q := 20) B2 dL_give_19 rfl ?_
      exact gz_iret B2 Z2 dL_give_20 ⟨by rw [hcz]; rfl, Or.inr ⟨by rw [hcz]; decide, hPz⟩⟩
    · cases hjz

set_option maxHeartbeats 4000000 in
theorem c_L_take {Y : gY} {l : Launch} {S : SS} (hst : l.stackTraces = false) (hw : wf (vw S 0)) (hnx : 0 ≤ S 75 0 ∧ S 75 0 < 14) (hct : 0 ≤ S 75 1 ∧ S 75 1 ≤ 14) (r : Int) (hr : rI r) : gVH Y l yL_take cL_take 4 [(0, 9, 12, 28)] (mX7_take.2.2.2.2 + 11) S [.ref (yA Y 72), .int (iI r), .ref (yA Y 91)] (wP (cd_take (vw S 0) r) (whyF (vw S 0) r) (fun S' => chP S S' (takeM (vw S 0) r)) (fun S' => S' = S)) := by
  refine gVH_of (by decide) (Nat.le_of_ble_eq_true rfl) ?_
  intro X hXl B tab hcap Z
  subst hXl
  show gW Y X S 0 [(0, .ref (yA Y 72)), (1, .int (iI r)), (2, .ref (yA Y 91))] []
  refine g_aload_n (q := 1) B dL_take_0 rfl 2 rfl ?_
  refine g_iconst (q := 2) B dL_take_1 rfl ?_
  refine g_aload_n (q := 3) B dL_take_2 rfl 0 rfl ?_
  refine g_iload_n (q := 4) B dL_take_3 rfl 1 rfl ?_
  refine g_callX (As := [.int (iI r)]) (st := [.int (iI 0), .ref (yA Y 91)]) B dL_take_4 (c_X7_take (Y := Y) (l := xL X) (S := S) hst hw hnx hct r hr) eX7_take w753 (Nat.le_refl _) rfl rfl (Nat.le_of_ble_eq_true rfl) (by rw [hcap.1]; exact hcap.2.2.1) (by rw [hcap.2.1]; exact hcap.2.2.2) (fun v Sv hv => ?_) (fun Ex Sv hx => ?_)
  · obtain ⟨hcz, rfl, hPz⟩ := hv
    have B2 := gB_up B (by rw [hcap.1]; exact hcap.2.2.1) (by rw [hcap.2.1]; exact hcap.2.2.2)
    have Z2 : gZ Y (xUp X) (wP (cd_take (vw S 0) r) (whyF (vw S 0) r) (fun S' => chP S S' (takeM (vw S 0) r)) (fun S' => S' = S)) := ⟨Z.1, by show xCells X + 1 ≤ 1; rw [hcap.1]; decide, by show xSlots X + 6 ≤ 6; rw [hcap.2.1]; decide⟩
    refine g_i2lN (q := 8) B2 dL_take_7 rfl ?_
    refine g_last (n := 91) (q := 9) B2 dL_take_8 rfl rfl (fun _ => rfl) (by decide) (by decide) (by decide) ?_
    refine g_goto (q := 15) B2 dL_take_9 (by decide) ?_
    refine g_iconst (q := 16) B2 dL_take_15 rfl ?_
    exact gz_iret B2 Z2 dL_take_16 ⟨by rw [hcz], Or.inl ⟨hcz, Sv, hPz, rfl⟩⟩
  · obtain ⟨jz, hcz, hjz, hPz⟩ := hx
    have B2 := gB_up B (by rw [hcap.1]; exact hcap.2.2.1) (by rw [hcap.2.1]; exact hcap.2.2.2)
    have Z2 : gZ Y (xUp X) (wP (cd_take (vw S 0) r) (whyF (vw S 0) r) (fun S' => chP S S' (takeM (vw S 0) r)) (fun S' => S' = S)) := ⟨Z.1, by show xCells X + 1 ≤ 1; rw [hcap.1]; decide, by show xSlots X + 6 ≤ 6; rw [hcap.2.1]; decide⟩
    rcases jz with _ | jz
    · cases hjz
      refine g_catch B2 [] ⟨0, 9, 12, 28⟩ [] tab (fun z hz => absurd hz List.not_mem_nil) (by decide) (by decide) wl_I (by decide) (fun q9 => ?_)
      show gW Y (xUp X) Sv 12 [(0, .ref (yA Y 72)), (1, .int (iI r)), (2, .ref (yA Y 91))] [.ref q9]
      refine g_astore_n (q := 13) B2 dL_take_12 rfl (by decide) (L' := [(3, .ref q9), (0, .ref (yA Y 72)), (1, .int (iI r)), (2, .ref (yA Y 91))]) rfl ?_
      refine g_iconst (q := 14) B2 dL_take_13 rfl ?_
      exact gz_iret B2 Z2 dL_take_14 ⟨by rw [hcz]; rfl, Or.inr ⟨by rw [hcz]; decide, hPz⟩⟩
    · cases hjz

set_option maxHeartbeats 4000000 in
theorem c_L_deal {Y : gY} {l : Launch} {S : SS} (hst : l.stackTraces = false) (hw : wf (vw S 0)) (hnx : 0 ≤ S 75 0 ∧ S 75 0 < 14) (hct : 0 ≤ S 75 1 ∧ S 75 1 ≤ 14) (s : Int) (hs : rI s) : gVH Y l yL_deal cL_deal 4 [(0, 9, 12, 28)] (mX7_deal.2.2.2.2 + 11) S [.ref (yA Y 72), .int (iI s), .ref (yA Y 91)] (wP (cd_01 s) (gapF (dealG (vw S 0) s)) (fun S' => chP S S' (dealG (vw S 0) s)) (fun S' => S' = S)) := by
  refine gVH_of (by decide) (Nat.le_of_ble_eq_true rfl) ?_
  intro X hXl B tab hcap Z
  subst hXl
  show gW Y X S 0 [(0, .ref (yA Y 72)), (1, .int (iI s)), (2, .ref (yA Y 91))] []
  refine g_aload_n (q := 1) B dL_deal_0 rfl 2 rfl ?_
  refine g_iconst (q := 2) B dL_deal_1 rfl ?_
  refine g_aload_n (q := 3) B dL_deal_2 rfl 0 rfl ?_
  refine g_iload_n (q := 4) B dL_deal_3 rfl 1 rfl ?_
  refine g_callX (As := [.int (iI s)]) (st := [.int (iI 0), .ref (yA Y 91)]) B dL_deal_4 (c_X7_deal (Y := Y) (l := xL X) (S := S) hst hw hnx hct s hs) eX7_deal w761 (Nat.le_refl _) rfl rfl (Nat.le_of_ble_eq_true rfl) (by rw [hcap.1]; exact hcap.2.2.1) (by rw [hcap.2.1]; exact hcap.2.2.2) (fun v Sv hv => ?_) (fun Ex Sv hx => ?_)
  · obtain ⟨hcz, rfl, hPz⟩ := hv
    have B2 := gB_up B (by rw [hcap.1]; exact hcap.2.2.1) (by rw [hcap.2.1]; exact hcap.2.2.2)
    have Z2 : gZ Y (xUp X) (wP (cd_01 s) (gapF (dealG (vw S 0) s)) (fun S' => chP S S' (dealG (vw S 0) s)) (fun S' => S' = S)) := ⟨Z.1, by show xCells X + 1 ≤ 1; rw [hcap.1]; decide, by show xSlots X + 6 ≤ 6; rw [hcap.2.1]; decide⟩
    refine g_i2lN (q := 8) B2 dL_deal_7 rfl ?_
    refine g_last (n := 91) (q := 9) B2 dL_deal_8 rfl rfl (fun _ => rfl) (by decide) (by decide) (by decide) ?_
    refine g_goto (q := 15) B2 dL_deal_9 (by decide) ?_
    refine g_iconst (q := 16) B2 dL_deal_15 rfl ?_
    exact gz_iret B2 Z2 dL_deal_16 ⟨by rw [hcz], Or.inl ⟨hcz, Sv, hPz, rfl⟩⟩
  · obtain ⟨jz, hcz, hjz, hPz⟩ := hx
    have B2 := gB_up B (by rw [hcap.1]; exact hcap.2.2.1) (by rw [hcap.2.1]; exact hcap.2.2.2)
    have Z2 : gZ Y (xUp X) (wP (cd_01 s) (gapF (dealG (vw S 0) s)) (fun S' => chP S S' (dealG (vw S 0) s)) (fun S' => S' = S)) := ⟨Z.1, by show xCells X + 1 ≤ 1; rw [hcap.1]; decide, by show xSlots X + 6 ≤ 6; rw [hcap.2.1]; decide⟩
    rcases jz with _ | jz
    · cases hjz
      refine g_catch B2 [] ⟨0, 9, 12, 28⟩ [] tab (fun z hz => absurd hz List.not_mem_nil) (by decide) (by decide) wl_I (by decide) (fun q9 => ?_)
      show gW Y (xUp X) Sv 12 [(0, .ref (yA Y 72)), (1, .int (iI s)), (2, .ref (yA Y 91))] [.ref q9]
      refine g_astore_n (q := 13) B2 dL_deal_12 rfl (by decide) (L' := [(3, .ref q9), (0, .ref (yA Y 72)), (1, .int (iI s)), (2, .ref (yA Y 91))]) rfl ?_
      refine g_iconst (q := 14) B2 dL_deal_13 rfl ?_
      exact gz_iret B2 Z2 dL_deal_14 ⟨by rw [hcz]; rfl, Or.inr ⟨by rw [hcz]; decide, hPz⟩⟩
    · cases hjz

set_option maxHeartbeats 4000000 in
theorem c_L_divide {Y : gY} {l : Launch} {S : SS} (hst : l.stackTraces = false) (hw : wf (vw S 0)) (hnx : 0 ≤ S 75 0 ∧ S 75 0 < 14) (hct : 0 ≤ S 75 1 ∧ S 75 1 ≤ 14) (h780 : S 78 0 = 0) : gVH Y l yL_divide cL_divide 3 [(0, 8, 11, 15)] (mX7_divide.2.2.2.2 + 11) S [.ref (yA Y 72), .ref (yA Y 91)] (wP (cd_dv (fewF (vw S 0))) (fewF (vw S 0)) (fun S' => dvP S S') (fun S' => fdv S S')) := by
  refine gVH_of (by decide) (Nat.le_of_ble_eq_true rfl) ?_
  intro X hXl B tab hcap Z
  subst hXl
  show gW Y X S 0 [(0, .ref (yA Y 72)), (1, .ref (yA Y 91))] []
  refine g_aload_n (q := 1) B dL_divide_0 rfl 1 rfl ?_
  refine g_iconst (q := 2) B dL_divide_1 rfl ?_
  refine g_aload_n (q := 3) B dL_divide_2 rfl 0 rfl ?_
  refine g_callX (As := []) (st := [.int (iI 0), .ref (yA Y 91)]) B dL_divide_3 (c_X7_divide (Y := Y) (l := xL X) (S := S) hst hw hnx hct h780) eX7_divide w770 (Nat.le_refl _) rfl rfl (Nat.le_of_ble_eq_true rfl) (by rw [hcap.1]; exact hcap.2.2.1) (by rw [hcap.2.1]; exact hcap.2.2.2) (fun v Sv hv => ?_) (fun Ex Sv hx => ?_)
  · obtain ⟨hcz, rfl, hPz⟩ := hv
    have B2 := gB_up B (by rw [hcap.1]; exact hcap.2.2.1) (by rw [hcap.2.1]; exact hcap.2.2.2)
    have Z2 : gZ Y (xUp X) (wP (cd_dv (fewF (vw S 0))) (fewF (vw S 0)) (fun S' => dvP S S') (fun S' => fdv S S')) := ⟨Z.1, by show xCells X + 1 ≤ 1; rw [hcap.1]; decide, by show xSlots X + 6 ≤ 6; rw [hcap.2.1]; decide⟩
    refine g_i2lN (q := 7) B2 dL_divide_6 rfl ?_
    refine g_last (n := 91) (q := 8) B2 dL_divide_7 rfl rfl (fun _ => rfl) (by decide) (by decide) (by decide) ?_
    refine g_goto (q := 14) B2 dL_divide_8 (by decide) ?_
    refine g_iconst (q := 15) B2 dL_divide_14 rfl ?_
    exact gz_iret B2 Z2 dL_divide_15 ⟨by rw [hcz], Or.inl ⟨hcz, Sv, hPz, rfl⟩⟩
  · obtain ⟨jz, hcz, hjz, hPz⟩ := hx
    have B2 := gB_up B (by rw [hcap.1]; exact hcap.2.2.1) (by rw [hcap.2.1]; exact hcap.2.2.2)
    have Z2 : gZ Y (xUp X) (wP (cd_dv (fewF (vw S 0))) (fewF (vw S 0)) (fun S' => dvP S S') (fun S' => fdv S S')) := ⟨Z.1, by show xCells X + 1 ≤ 1; rw [hcap.1]; decide, by show xSlots X + 6 ≤ 6; rw [hcap.2.1]; decide⟩
    rcases jz with _ | jz
    · cases hjz
      refine g_catch B2 [] ⟨0, 8, 11, 15⟩ [] tab (fun z hz => absurd hz List.not_mem_nil) (by decide) (by decide) wl_S (by decide) (fun q9 => ?_)
      show gW Y (xUp X) Sv 11 [(0, .ref (yA Y 72)), (1, .ref (yA Y 91))] [.ref q9]
      refine g_astore_n (q := 12) B2 dL_divide_11 rfl (by decide) (L' := [(2, .ref q9), (0, .ref (yA Y 72)), (1, .ref (yA Y 91))]) rfl ?_
      refine g_iconst (q := 13) B2 dL_divide_12 rfl ?_
      exact gz_iret B2 Z2 dL_divide_13 ⟨by rw [hcz]; rfl, Or.inr ⟨by rw [hcz]; decide, hPz⟩⟩
    · cases hjz

set_option maxHeartbeats 4000000 in
theorem c_L_set {Y : gY} {l : Launch} {S : SS} (hst : l.stackTraces = false) (hw : wf (vw S 0)) (hnx : 0 ≤ S 75 0 ∧ S 75 0 < 14) (hct : 0 ≤ S 75 1 ∧ S 75 1 ≤ 14) (v : Int) (hv : rI v) : gVH Y l yL_set cL_set 4 [(0, 9, 12, 13)] (mX7_set.2.2.2.2 + 11) S [.ref (yA Y 72), .int (iI v), .ref (yA Y 91)] (wP (cd_01 v) (S (4 * 0) 4) (fun S' => chP S S' (setG (vw S 0) v)) (fun S' => S' = S)) := by
  refine gVH_of (by decide) (Nat.le_of_ble_eq_true rfl) ?_
  intro X hXl B tab hcap Z
  subst hXl
  show gW Y X S 0 [(0, .ref (yA Y 72)), (1, .int (iI v)), (2, .ref (yA Y 91))] []
  refine g_aload_n (q := 1) B dL_set_0 rfl 2 rfl ?_
  refine g_iconst (q := 2) B dL_set_1 rfl ?_
  refine g_aload_n (q := 3) B dL_set_2 rfl 0 rfl ?_
  refine g_iload_n (q := 4) B dL_set_3 rfl 1 rfl ?_
  refine g_callX (As := [.int (iI v)]) (st := [.int (iI 0), .ref (yA Y 91)]) B dL_set_4 (c_X7_set (Y := Y) (l := xL X) (S := S) hst hw hnx hct v hv) eX7_set w787 (Nat.le_refl _) rfl rfl (Nat.le_of_ble_eq_true rfl) (by rw [hcap.1]; exact hcap.2.2.1) (by rw [hcap.2.1]; exact hcap.2.2.2) (fun v Sv hv => ?_) (fun Ex Sv hx => ?_)
  · obtain ⟨hcz, rfl, hPz⟩ := hv
    have B2 := gB_up B (by rw [hcap.1]; exact hcap.2.2.1) (by rw [hcap.2.1]; exact hcap.2.2.2)
    have Z2 : gZ Y (xUp X) (wP (cd_01 v) (S (4 * 0) 4) (fun S' => chP S S' (setG (vw S 0) v)) (fun S' => S' = S)) := ⟨Z.1, by show xCells X + 1 ≤ 1; rw [hcap.1]; decide, by show xSlots X + 6 ≤ 6; rw [hcap.2.1]; decide⟩
    refine g_i2lN (q := 8) B2 dL_set_7 rfl ?_
    refine g_last (n := 91) (q := 9) B2 dL_set_8 rfl rfl (fun _ => rfl) (by decide) (by decide) (by decide) ?_
    refine g_goto (q := 15) B2 dL_set_9 (by decide) ?_
    refine g_iconst (q := 16) B2 dL_set_15 rfl ?_
    exact gz_iret B2 Z2 dL_set_16 ⟨by rw [hcz], Or.inl ⟨hcz, Sv, hPz, rfl⟩⟩
  · obtain ⟨jz, hcz, hjz, hPz⟩ := hx
    have B2 := gB_up B (by rw [hcap.1]; exact hcap.2.2.1) (by rw [hcap.2.1]; exact hcap.2.2.2)
    have Z2 : gZ Y (xUp X) (wP (cd_01 v) (S (4 * 0) 4) (fun S' => chP S S' (setG (vw S 0) v)) (fun S' => S' = S)) := ⟨Z.1, by show xCells X + 1 ≤ 1; rw [hcap.1]; decide, by show xSlots X + 6 ≤ 6; rw [hcap.2.1]; decide⟩
    rcases jz with _ | jz
    · cases hjz
      refine g_catch B2 [] ⟨0, 9, 12, 13⟩ [] tab (fun z hz => absurd hz List.not_mem_nil) (by decide) (by decide) wl_A (by decide) (fun q9 => ?_)
      show gW Y (xUp X) Sv 12 [(0, .ref (yA Y 72)), (1, .int (iI v)), (2, .ref (yA Y 91))] [.ref q9]
      refine g_astore_n (q := 13) B2 dL_set_12 rfl (by decide) (L' := [(3, .ref q9), (0, .ref (yA Y 72)), (1, .int (iI v)), (2, .ref (yA Y 91))]) rfl ?_
      refine g_iconst (q := 14) B2 dL_set_13 rfl ?_
      exact gz_iret B2 Z2 dL_set_14 ⟨by rw [hcz]; rfl, Or.inr ⟨by rw [hcz]; decide, hPz⟩⟩
    · cases hjz

set_option maxHeartbeats 4000000 in
theorem c_L_undo {Y : gY} {l : Launch} {S : SS} (hst : l.stackTraces = false) (hnx : 0 ≤ S 75 0 ∧ S 75 0 < 14) (hct : 0 ≤ S 75 1 ∧ S 75 1 ≤ 14) : gVH Y l yL_undo cL_undo 3 [(0, 8, 11, 15)] (mX7_undo.2.2.2.2 + 11) S [.ref (yA Y 72), .ref (yA Y 91)] (wP (cd_undo (S 75 1)) (S 75 1 - 1) (fun S' => tbP S S') (fun S' => S' = S)) := by
  refine gVH_of (by decide) (Nat.le_of_ble_eq_true rfl) ?_
  intro X hXl B tab hcap Z
  subst hXl
  show gW Y X S 0 [(0, .ref (yA Y 72)), (1, .ref (yA Y 91))] []
  refine g_aload_n (q := 1) B dL_undo_0 rfl 1 rfl ?_
  refine g_iconst (q := 2) B dL_undo_1 rfl ?_
  refine g_aload_n (q := 3) B dL_undo_2 rfl 0 rfl ?_
  refine g_callX (As := []) (st := [.int (iI 0), .ref (yA Y 91)]) B dL_undo_3 (c_X7_undo (Y := Y) (l := xL X) (S := S) hst hnx hct) eX7_undo w797 (Nat.le_refl _) rfl rfl (Nat.le_of_ble_eq_true rfl) (by rw [hcap.1]; exact hcap.2.2.1) (by rw [hcap.2.1]; exact hcap.2.2.2) (fun v Sv hv => ?_) (fun Ex Sv hx => ?_)
  · obtain ⟨hcz, rfl, hPz⟩ := hv
    have B2 := gB_up B (by rw [hcap.1]; exact hcap.2.2.1) (by rw [hcap.2.1]; exact hcap.2.2.2)
    have Z2 : gZ Y (xUp X) (wP (cd_undo (S 75 1)) (S 75 1 - 1) (fun S' => tbP S S') (fun S' => S' = S)) := ⟨Z.1, by show xCells X + 1 ≤ 1; rw [hcap.1]; decide, by show xSlots X + 6 ≤ 6; rw [hcap.2.1]; decide⟩
    refine g_i2lN (q := 7) B2 dL_undo_6 rfl ?_
    refine g_last (n := 91) (q := 8) B2 dL_undo_7 rfl rfl (fun _ => rfl) (by decide) (by decide) (by decide) ?_
    refine g_goto (q := 14) B2 dL_undo_8 (by decide) ?_
    refine g_iconst (q := 15) B2 dL_undo_14 rfl ?_
    exact gz_iret B2 Z2 dL_undo_15 ⟨by rw [hcz], Or.inl ⟨hcz, Sv, hPz, rfl⟩⟩
  · obtain ⟨jz, hcz, hjz, hPz⟩ := hx
    have B2 := gB_up B (by rw [hcap.1]; exact hcap.2.2.1) (by rw [hcap.2.1]; exact hcap.2.2.2)
    have Z2 : gZ Y (xUp X) (wP (cd_undo (S 75 1)) (S 75 1 - 1) (fun S' => tbP S S') (fun S' => S' = S)) := ⟨Z.1, by show xCells X + 1 ≤ 1; rw [hcap.1]; decide, by show xSlots X + 6 ≤ 6; rw [hcap.2.1]; decide⟩
    rcases jz with _ | jz
    · cases hjz
      refine g_catch B2 [] ⟨0, 8, 11, 15⟩ [] tab (fun z hz => absurd hz List.not_mem_nil) (by decide) (by decide) wl_S (by decide) (fun q9 => ?_)
      show gW Y (xUp X) Sv 11 [(0, .ref (yA Y 72)), (1, .ref (yA Y 91))] [.ref q9]
      refine g_astore_n (q := 12) B2 dL_undo_11 rfl (by decide) (L' := [(2, .ref q9), (0, .ref (yA Y 72)), (1, .ref (yA Y 91))]) rfl ?_
      refine g_iconst (q := 13) B2 dL_undo_12 rfl ?_
      exact gz_iret B2 Z2 dL_undo_13 ⟨by rw [hcz]; rfl, Or.inr ⟨by rw [hcz]; decide, hPz⟩⟩
    · cases hjz

set_option maxHeartbeats 4000000 in
theorem c_L_fewest {Y : gY} {l : Launch} {S : SS} (hst : l.stackTraces = false) (hw : wf (vw S 0)) (h780 : S 78 0 = 0) (u : Int) (hu : rI u) : gVH Y l yL_fewest cL_fewest 4 [(0, 9, 12, 13)] (mX7_fewest.2.2.2.2 + 11) S [.ref (yA Y 72), .int (iI u), .ref (yA Y 91)] (wP (cd_01 u) (fewF (vw S 0)) (fun S' => fdv S S') (fun S' => S' = S)) := by
  refine gVH_of (by decide) (Nat.le_of_ble_eq_true rfl) ?_
  intro X hXl B tab hcap Z
  subst hXl
  show gW Y X S 0 [(0, .ref (yA Y 72)), (1, .int (iI u)), (2, .ref (yA Y 91))] []
  refine g_aload_n (q := 1) B dL_fewest_0 rfl 2 rfl ?_
  refine g_iconst (q := 2) B dL_fewest_1 rfl ?_
  refine g_aload_n (q := 3) B dL_fewest_2 rfl 0 rfl ?_
  refine g_iload_n (q := 4) B dL_fewest_3 rfl 1 rfl ?_
  refine g_callX (As := [.int (iI u)]) (st := [.int (iI 0), .ref (yA Y 91)]) B dL_fewest_4 (c_X7_fewest (Y := Y) (l := xL X) (S := S) hst hw h780 u hu) eX7_fewest w809 (Nat.le_refl _) rfl rfl (Nat.le_of_ble_eq_true rfl) (by rw [hcap.1]; exact hcap.2.2.1) (by rw [hcap.2.1]; exact hcap.2.2.2) (fun v Sv hv => ?_) (fun Ex Sv hx => ?_)
  · obtain ⟨hcz, rfl, hPz⟩ := hv
    have B2 := gB_up B (by rw [hcap.1]; exact hcap.2.2.1) (by rw [hcap.2.1]; exact hcap.2.2.2)
    have Z2 : gZ Y (xUp X) (wP (cd_01 u) (fewF (vw S 0)) (fun S' => fdv S S') (fun S' => S' = S)) := ⟨Z.1, by show xCells X + 1 ≤ 1; rw [hcap.1]; decide, by show xSlots X + 6 ≤ 6; rw [hcap.2.1]; decide⟩
    refine g_i2lN (q := 8) B2 dL_fewest_7 rfl ?_
    refine g_last (n := 91) (q := 9) B2 dL_fewest_8 rfl rfl (fun _ => rfl) (by decide) (by decide) (by decide) ?_
    refine g_goto (q := 15) B2 dL_fewest_9 (by decide) ?_
    refine g_iconst (q := 16) B2 dL_fewest_15 rfl ?_
    exact gz_iret B2 Z2 dL_fewest_16 ⟨by rw [hcz], Or.inl ⟨hcz, Sv, hPz, rfl⟩⟩
  · obtain ⟨jz, hcz, hjz, hPz⟩ := hx
    have B2 := gB_up B (by rw [hcap.1]; exact hcap.2.2.1) (by rw [hcap.2.1]; exact hcap.2.2.2)
    have Z2 : gZ Y (xUp X) (wP (cd_01 u) (fewF (vw S 0)) (fun S' => fdv S S') (fun S' => S' = S)) := ⟨Z.1, by show xCells X + 1 ≤ 1; rw [hcap.1]; decide, by show xSlots X + 6 ≤ 6; rw [hcap.2.1]; decide⟩
    rcases jz with _ | jz
    · cases hjz
      refine g_catch B2 [] ⟨0, 9, 12, 13⟩ [] tab (fun z hz => absurd hz List.not_mem_nil) (by decide) (by decide) wl_A (by decide) (fun q9 => ?_)
      show gW Y (xUp X) Sv 12 [(0, .ref (yA Y 72)), (1, .int (iI u)), (2, .ref (yA Y 91))] [.ref q9]
      refine g_astore_n (q := 13) B2 dL_fewest_12 rfl (by decide) (L' := [(3, .ref q9), (0, .ref (yA Y 72)), (1, .int (iI u)), (2, .ref (yA Y 91))]) rfl ?_
      refine g_iconst (q := 14) B2 dL_fewest_13 rfl ?_
      exact gz_iret B2 Z2 dL_fewest_14 ⟨by rw [hcz]; rfl, Or.inr ⟨by rw [hcz]; decide, hPz⟩⟩
    · cases hjz

set_option maxHeartbeats 4000000 in
theorem c_L_divided {Y : gY} {l : Launch} {S : SS} (hst : l.stackTraces = false) (hw : wf (vw S 0)) (h780 : S 78 0 = 0) (k : Int) (hk : rI k) : gVH Y l yL_divided cL_divided 4 [(0, 9, 12, 13)] (mX7_divided.2.2.2.2 + 11) S [.ref (yA Y 72), .int (iI k), .ref (yA Y 91)] (wP (cd_m1 k) (divF (vw S 0) k) (fun S' => fdv S S') (fun S' => S' = S)) := by
  refine gVH_of (by decide) (Nat.le_of_ble_eq_true rfl) ?_
  intro X hXl B tab hcap Z
  subst hXl
  show gW Y X S 0 [(0, .ref (yA Y 72)), (1, .int (iI k)), (2, .ref (yA Y 91))] []
  refine g_aload_n (q := 1) B dL_divided_0 rfl 2 rfl ?_
  refine g_iconst (q := 2) B dL_divided_1 rfl ?_
  refine g_aload_n (q := 3) B dL_divided_2 rfl 0 rfl ?_
  refine g_iload_n (q := 4) B dL_divided_3 rfl 1 rfl ?_
  refine g_callX (As := [.int (iI k)]) (st := [.int (iI 0), .ref (yA Y 91)]) B dL_divided_4 (c_X7_divided (Y := Y) (l := xL X) (S := S) hst hw h780 k hk) eX7_divided w827 (Nat.le_refl _) rfl rfl (Nat.le_of_ble_eq_true rfl) (by rw [hcap.1]; exact hcap.2.2.1) (by rw [hcap.2.1]; exact hcap.2.2.2) (fun v Sv hv => ?_) (fun Ex Sv hx => ?_)
  · obtain ⟨hcz, rfl, hPz⟩ := hv
    have B2 := gB_up B (by rw [hcap.1]; exact hcap.2.2.1) (by rw [hcap.2.1]; exact hcap.2.2.2)
    have Z2 : gZ Y (xUp X) (wP (cd_m1 k) (divF (vw S 0) k) (fun S' => fdv S S') (fun S' => S' = S)) := ⟨Z.1, by show xCells X + 1 ≤ 1; rw [hcap.1]; decide, by show xSlots X + 6 ≤ 6; rw [hcap.2.1]; decide⟩
    refine g_i2lN (q := 8) B2 dL_divided_7 rfl ?_
    refine g_last (n := 91) (q := 9) B2 dL_divided_8 rfl rfl (fun _ => rfl) (by decide) (by decide) (by decide) ?_
    refine g_goto (q := 15) B2 dL_divided_9 (by decide) ?_
    refine g_iconst (q := 16) B2 dL_divided_15 rfl ?_
    exact gz_iret B2 Z2 dL_divided_16 ⟨by rw [hcz], Or.inl ⟨hcz, Sv, hPz, rfl⟩⟩
  · obtain ⟨jz, hcz, hjz, hPz⟩ := hx
    have B2 := gB_up B (by rw [hcap.1]; exact hcap.2.2.1) (by rw [hcap.2.1]; exact hcap.2.2.2)
    have Z2 : gZ Y (xUp X) (wP (cd_m1 k) (divF (vw S 0) k) (fun S' => fdv S S') (fun S' => S' = S)) := ⟨Z.1, by show xCells X + 1 ≤ 1; rw [hcap.1]; decide, by show xSlots X + 6 ≤ 6; rw [hcap.2.1]; decide⟩
    rcases jz with _ | jz
    · cases hjz
      refine g_catch B2 [] ⟨0, 9, 12, 13⟩ [] tab (fun z hz => absurd hz List.not_mem_nil) (by decide) (by decide) wl_A (by decide) (fun q9 => ?_)
      show gW Y (xUp X) Sv 12 [(0, .ref (yA Y 72)), (1, .int (iI k)), (2, .ref (yA Y 91))] [.ref q9]
      refine g_astore_n (q := 13) B2 dL_divided_12 rfl (by decide) (L' := [(3, .ref q9), (0, .ref (yA Y 72)), (1, .int (iI k)), (2, .ref (yA Y 91))]) rfl ?_
      refine g_iconst (q := 14) B2 dL_divided_13 rfl ?_
      exact gz_iret B2 Z2 dL_divided_14 ⟨by rw [hcz]; rfl, Or.inr ⟨by rw [hcz]; decide, hPz⟩⟩
    · cases hjz

set_option maxHeartbeats 4000000 in
theorem c_L_leastGap {Y : gY} {l : Launch} {S : SS} (hst : l.stackTraces = false) (hw : wf (vw S 0)) (h780 : S 78 0 = 0) (m : Int) (hm : rI m) : gVH Y l yL_leastGap cL_leastGap 4 [(0, 9, 12, 13)] (mX7_leastGap.2.2.2.2 + 11) S [.ref (yA Y 72), .int (iI m), .ref (yA Y 91)] (wP (cd_04 m) (lgF (vw S 0) m.toNat) (fun S' => fdv S S') (fun S' => S' = S)) := by
  refine gVH_of (by decide) (Nat.le_of_ble_eq_true rfl) ?_
  intro X hXl B tab hcap Z
  subst hXl
  show gW Y X S 0 [(0, .ref (yA Y 72)), (1, .int (iI m)), (2, .ref (yA Y 91))] []
  refine g_aload_n (q := 1) B dL_leastGap_0 rfl 2 rfl ?_
  refine g_iconst (q := 2) B dL_leastGap_1 rfl ?_
  refine g_aload_n (q := 3) B dL_leastGap_2 rfl 0 rfl ?_
  refine g_iload_n (q := 4) B dL_leastGap_3 rfl 1 rfl ?_
  refine g_callX (As := [.int (iI m)]) (st := [.int (iI 0), .ref (yA Y 91)]) B dL_leastGap_4 (c_X7_leastGap (Y := Y) (l := xL X) (S := S) hst hw h780 m hm) eX7_leastGap w835 (Nat.le_refl _) rfl rfl (Nat.le_of_ble_eq_true rfl) (by rw [hcap.1]; exact hcap.2.2.1) (by rw [hcap.2.1]; exact hcap.2.2.2) (fun v Sv hv => ?_) (fun Ex Sv hx => ?_)
  · obtain ⟨hcz, rfl, hPz⟩ := hv
    have B2 := gB_up B (by rw [hcap.1]; exact hcap.2.2.1) (by rw [hcap.2.1]; exact hcap.2.2.2)
    have Z2 : gZ Y (xUp X) (wP (cd_04 m) (lgF (vw S 0) m.toNat) (fun S' => fdv S S') (fun S' => S' = S)) := ⟨Z.1, by show xCells X + 1 ≤ 1; rw [hcap.1]; decide, by show xSlots X + 6 ≤ 6; rw [hcap.2.1]; decide⟩
    refine g_i2lN (q := 8) B2 dL_leastGap_7 rfl ?_
    refine g_last (n := 91) (q := 9) B2 dL_leastGap_8 rfl rfl (fun _ => rfl) (by decide) (by decide) (by decide) ?_
    refine g_goto (q := 15) B2 dL_leastGap_9 (by decide) ?_
    refine g_iconst (q := 16) B2 dL_leastGap_15 rfl ?_
    exact gz_iret B2 Z2 dL_leastGap_16 ⟨by rw [hcz], Or.inl ⟨hcz, Sv, hPz, rfl⟩⟩
  · obtain ⟨jz, hcz, hjz, hPz⟩ := hx
    have B2 := gB_up B (by rw [hcap.1]; exact hcap.2.2.1) (by rw [hcap.2.1]; exact hcap.2.2.2)
    have Z2 : gZ Y (xUp X) (wP (cd_04 m) (lgF (vw S 0) m.toNat) (fun S' => fdv S S') (fun S' => S' = S)) := ⟨Z.1, by show xCells X + 1 ≤ 1; rw [hcap.1]; decide, by show xSlots X + 6 ≤ 6; rw [hcap.2.1]; decide⟩
    rcases jz with _ | jz
    · cases hjz
      refine g_catch B2 [] ⟨0, 9, 12, 13⟩ [] tab (fun z hz => absurd hz List.not_mem_nil) (by decide) (by decide) wl_A (by decide) (fun q9 => ?_)
      show gW Y (xUp X) Sv 12 [(0, .ref (yA Y 72)), (1, .int (iI m)), (2, .ref (yA Y 91))] [.ref q9]
      refine g_astore_n (q := 13) B2 dL_leastGap_12 rfl (by decide) (L' := [(3, .ref q9), (0, .ref (yA Y 72)), (1, .int (iI m)), (2, .ref (yA Y 91))]) rfl ?_
      refine g_iconst (q := 14) B2 dL_leastGap_13 rfl ?_
      exact gz_iret B2 Z2 dL_leastGap_14 ⟨by rw [hcz]; rfl, Or.inr ⟨by rw [hcz]; decide, hPz⟩⟩
    · cases hjz

set_option maxHeartbeats 4000000 in
theorem c_L_ifGiven {Y : gY} {l : Launch} {S : SS} (hst : l.stackTraces = false) (hw : wf (vw S 0)) (r : Int) (hr : rI r) (o : Int) (ho : rI o) : gVH Y l yL_ifGiven cL_ifGiven 5 [(0, 10, 13, 28), (0, 10, 17, 13)] (mX7_ifGiven.2.2.2.2 + 11) S [.ref (yA Y 72), .int (iI r), .int (iI o), .ref (yA Y 91)] (wP (cd_give (vw S 0) r o) (gapF (giveG (vw S 0) r o)) (fun S' => fr S S' 1) (fun S' => S' = S)) := by
  refine gVH_of (by decide) (Nat.le_of_ble_eq_true rfl) ?_
  intro X hXl B tab hcap Z
  subst hXl
  show gW Y X S 0 [(0, .ref (yA Y 72)), (1, .int (iI r)), (2, .int (iI o)), (3, .ref (yA Y 91))] []
  refine g_aload_n (q := 1) B dL_ifGiven_0 rfl 3 rfl ?_
  refine g_iconst (q := 2) B dL_ifGiven_1 rfl ?_
  refine g_aload_n (q := 3) B dL_ifGiven_2 rfl 0 rfl ?_
  refine g_iload_n (q := 4) B dL_ifGiven_3 rfl 1 rfl ?_
  refine g_iload_n (q := 5) B dL_ifGiven_4 rfl 2 rfl ?_
  refine g_callX (As := [.int (iI r), .int (iI o)]) (st := [.int (iI 0), .ref (yA Y 91)]) B dL_ifGiven_5 (c_X7_ifGiven (Y := Y) (l := xL X) (S := S) hst hw r hr o ho) eX7_ifGiven w856 (Nat.le_refl _) rfl rfl (Nat.le_of_ble_eq_true rfl) (by rw [hcap.1]; exact hcap.2.2.1) (by rw [hcap.2.1]; exact hcap.2.2.2) (fun v Sv hv => ?_) (fun Ex Sv hx => ?_)
  · obtain ⟨hcz, rfl, hPz⟩ := hv
    have B2 := gB_up B (by rw [hcap.1]; exact hcap.2.2.1) (by rw [hcap.2.1]; exact hcap.2.2.2)
    have Z2 : gZ Y (xUp X) (wP (cd_give (vw S 0) r o) (gapF (giveG (vw S 0) r o)) (fun S' => fr S S' 1) (fun S' => S' = S)) := ⟨Z.1, by show xCells X + 1 ≤ 1; rw [hcap.1]; decide, by show xSlots X + 6 ≤ 6; rw [hcap.2.1]; decide⟩
    refine g_i2lN (q := 9) B2 dL_ifGiven_8 rfl ?_
    refine g_last (n := 91) (q := 10) B2 dL_ifGiven_9 rfl rfl (fun _ => rfl) (by decide) (by decide) (by decide) ?_
    refine g_goto (q := 21) B2 dL_ifGiven_10 (by decide) ?_
    refine g_iconst (q := 22) B2 dL_ifGiven_21 rfl ?_
    exact gz_iret B2 Z2 dL_ifGiven_22 ⟨by rw [hcz], Or.inl ⟨hcz, Sv, hPz, rfl⟩⟩
  · obtain ⟨jz, hcz, hjz, hPz⟩ := hx
    have B2 := gB_up B (by rw [hcap.1]; exact hcap.2.2.1) (by rw [hcap.2.1]; exact hcap.2.2.2)
    have Z2 : gZ Y (xUp X) (wP (cd_give (vw S 0) r o) (gapF (giveG (vw S 0) r o)) (fun S' => fr S S' 1) (fun S' => S' = S)) := ⟨Z.1, by show xCells X + 1 ≤ 1; rw [hcap.1]; decide, by show xSlots X + 6 ≤ 6; rw [hcap.2.1]; decide⟩
    rcases jz with _ | _ | jz
    · cases hjz
      refine g_catch B2 [] ⟨0, 10, 13, 28⟩ [⟨0, 10, 17, 13⟩] tab (fun z hz => absurd hz List.not_mem_nil) (by decide) (by decide) wl_I (by decide) (fun q9 => ?_)
      show gW Y (xUp X) Sv 13 [(0, .ref (yA Y 72)), (1, .int (iI r)), (2, .int (iI o)), (3, .ref (yA Y 91))] [.ref q9]
      refine g_astore (q := 15) B2 dL_ifGiven_13 rfl (by decide) (L' := [(4, .ref q9), (0, .ref (yA Y 72)), (1, .int (iI r)), (2, .int (iI o)), (3, .ref (yA Y 91))]) rfl ?_
      refine g_iconst (q := 16) B2 dL_ifGiven_15 rfl ?_
      exact gz_iret B2 Z2 dL_ifGiven_16 ⟨by rw [hcz]; rfl, Or.inr ⟨by rw [hcz]; decide, hPz⟩⟩
    · cases hjz
      refine g_catch B2 [⟨0, 10, 13, 28⟩] ⟨0, 10, 17, 13⟩ [] tab (fun z hz => by cases List.mem_singleton.mp hz; exact ⟨by decide, eI, wl_I, by decide⟩) (by decide) (by decide) wl_A (by decide) (fun q9 => ?_)
      show gW Y (xUp X) Sv 17 [(0, .ref (yA Y 72)), (1, .int (iI r)), (2, .int (iI o)), (3, .ref (yA Y 91))] [.ref q9]
      refine g_astore (q := 19) B2 dL_ifGiven_17 rfl (by decide) (L' := [(4, .ref q9), (0, .ref (yA Y 72)), (1, .int (iI r)), (2, .int (iI o)), (3, .ref (yA Y 91))]) rfl ?_
      refine g_iconst (q := 20) B2 dL_ifGiven_19 rfl ?_
      exact gz_iret B2 Z2 dL_ifGiven_20 ⟨by rw [hcz]; rfl, Or.inr ⟨by rw [hcz]; decide, hPz⟩⟩
    · cases hjz

set_option maxHeartbeats 4000000 in
theorem c_L_runScript {Y : gY} {l : Launch} {S : SS} (hst : l.stackTraces = false) (hw : wf (vw S 0)) (h780 : S 78 0 = 0) (n s : Int) (hn : rI n) (hs : rL s) : gVH Y l yL_runScript cL_runScript 6 [(0, 11, 14, 13)] (mX7_runScript.2.2.2.2 + 11) S [.ref (yA Y 72), .int (iI n), .long (lI s), .ref (yA Y 91)] (wP (cd_run n s) (rcA s n n.toNat (vw S 0)) (fun S' => f1t S S' ∧ S' 78 0 = 0) (fun S' => S' = S)) := by
  refine gVH_of (by decide) (Nat.le_of_ble_eq_true rfl) ?_
  intro X hXl B tab hcap Z
  subst hXl
  show gW Y X S 0 [(0, .ref (yA Y 72)), (1, .int (iI n)), (2, .long (lI s)), (4, .ref (yA Y 91))] []
  refine g_aload (q := 2) B dL_runScript_0 rfl 3 rfl ?_
  refine g_iconst (q := 3) B dL_runScript_2 rfl ?_
  refine g_aload_n (q := 4) B dL_runScript_3 rfl 0 rfl ?_
  refine g_iload_n (q := 5) B dL_runScript_4 rfl 1 rfl ?_
  refine g_lload_n (q := 6) B dL_runScript_5 rfl 2 rfl ?_
  refine g_callX (As := [.int (iI n), .long (lI s)]) (st := [.int (iI 0), .ref (yA Y 91)]) B dL_runScript_6 (c_X7_runScript (Y := Y) (l := xL X) (S := S) hst hw h780 n s hn hs) eX7_runScript w863 (Nat.le_refl _) rfl rfl (Nat.le_of_ble_eq_true rfl) (by rw [hcap.1]; exact hcap.2.2.1) (by rw [hcap.2.1]; exact hcap.2.2.2) (fun v Sv hv => ?_) (fun Ex Sv hx => ?_)
  · obtain ⟨hcz, rfl, hPz⟩ := hv
    have B2 := gB_up B (by rw [hcap.1]; exact hcap.2.2.1) (by rw [hcap.2.1]; exact hcap.2.2.2)
    have Z2 : gZ Y (xUp X) (wP (cd_run n s) (rcA s n n.toNat (vw S 0)) (fun S' => f1t S S' ∧ S' 78 0 = 0) (fun S' => S' = S)) := ⟨Z.1, by show xCells X + 1 ≤ 1; rw [hcap.1]; decide, by show xSlots X + 6 ≤ 6; rw [hcap.2.1]; decide⟩
    refine g_i2lN (q := 10) B2 dL_runScript_9 rfl ?_
    refine g_last (n := 91) (q := 11) B2 dL_runScript_10 rfl rfl (fun _ => rfl) (by decide) (by decide) (by decide) ?_
    refine g_goto (q := 18) B2 dL_runScript_11 (by decide) ?_
    refine g_iconst (q := 19) B2 dL_runScript_18 rfl ?_
    exact gz_iret B2 Z2 dL_runScript_19 ⟨by rw [hcz], Or.inl ⟨hcz, Sv, hPz, rfl⟩⟩
  · obtain ⟨jz, hcz, hjz, hPz⟩ := hx
    have B2 := gB_up B (by rw [hcap.1]; exact hcap.2.2.1) (by rw [hcap.2.1]; exact hcap.2.2.2)
    have Z2 : gZ Y (xUp X) (wP (cd_run n s) (rcA s n n.toNat (vw S 0)) (fun S' => f1t S S' ∧ S' 78 0 = 0) (fun S' => S' = S)) := ⟨Z.1, by show xCells X + 1 ≤ 1; rw [hcap.1]; decide, by show xSlots X + 6 ≤ 6; rw [hcap.2.1]; decide⟩
    rcases jz with _ | jz
    · cases hjz
      refine g_catch B2 [] ⟨0, 11, 14, 13⟩ [] tab (fun z hz => absurd hz List.not_mem_nil) (by decide) (by decide) wl_A (by decide) (fun q9 => ?_)
      show gW Y (xUp X) Sv 14 [(0, .ref (yA Y 72)), (1, .int (iI n)), (2, .long (lI s)), (4, .ref (yA Y 91))] [.ref q9]
      refine g_astore (q := 16) B2 dL_runScript_14 rfl (by decide) (L' := [(5, .ref q9), (0, .ref (yA Y 72)), (1, .int (iI n)), (2, .long (lI s)), (4, .ref (yA Y 91))]) rfl ?_
      refine g_iconst (q := 17) B2 dL_runScript_16 rfl ?_
      exact gz_iret B2 Z2 dL_runScript_17 ⟨by rw [hcz]; rfl, Or.inr ⟨by rw [hcz]; decide, hPz⟩⟩
    · cases hjz

set_option maxHeartbeats 4000000 in
theorem c_L_simulate {Y : gY} {l : Launch} {S : SS} (hst : l.stackTraces = false) (hw : wf (vw S 0)) (z m : Int) (hz : rL z) (hm : rI m) : gVH Y l yL_simulate cL_simulate 6 [(0, 11, 14, 13)] (mX7_simulate.2.2.2.2 + 11) S [.ref (yA Y 72), .long (lI z), .int (iI m), .ref (yA Y 91)] (wP (cd_sim m) (laV (plT (vw S 0) z m.toNat)) (fun S' => fr S S' 1) (fun S' => S' = S)) := by
  refine gVH_of (by decide) (Nat.le_of_ble_eq_true rfl) ?_
  intro X hXl B tab hcap Z
  subst hXl
  show gW Y X S 0 [(0, .ref (yA Y 72)), (1, .long (lI z)), (3, .int (iI m)), (4, .ref (yA Y 91))] []
  refine g_aload (q := 2) B dL_simulate_0 rfl 3 rfl ?_
  refine g_iconst (q := 3) B dL_simulate_2 rfl ?_
  refine g_aload_n (q := 4) B dL_simulate_3 rfl 0 rfl ?_
  refine g_lload_n (q := 5) B dL_simulate_4 rfl 1 rfl ?_
  refine g_iload_n (q := 6) B dL_simulate_5 rfl 2 rfl ?_
  refine g_callX (As := [.long (lI z), .int (iI m)]) (st := [.int (iI 0), .ref (yA Y 91)]) B dL_simulate_6 (c_X7_simulate (Y := Y) (l := xL X) (S := S) hst hw z m hz hm) eX7_simulate w897 (Nat.le_refl _) rfl rfl (Nat.le_of_ble_eq_true rfl) (by rw [hcap.1]; exact hcap.2.2.1) (by rw [hcap.2.1]; exact hcap.2.2.2) (fun v Sv hv => ?_) (fun Ex Sv hx => ?_)
  · obtain ⟨hcz, rfl, hPz⟩ := hv
    have B2 := gB_up B (by rw [hcap.1]; exact hcap.2.2.1) (by rw [hcap.2.1]; exact hcap.2.2.2)
    have Z2 : gZ Y (xUp X) (wP (cd_sim m) (laV (plT (vw S 0) z m.toNat)) (fun S' => fr S S' 1) (fun S' => S' = S)) := ⟨Z.1, by show xCells X + 1 ≤ 1; rw [hcap.1]; decide, by show xSlots X + 6 ≤ 6; rw [hcap.2.1]; decide⟩
    refine g_i2lN (q := 10) B2 dL_simulate_9 rfl ?_
    refine g_last (n := 91) (q := 11) B2 dL_simulate_10 rfl rfl (fun _ => rfl) (by decide) (by decide) (by decide) ?_
    refine g_goto (q := 18) B2 dL_simulate_11 (by decide) ?_
    refine g_iconst (q := 19) B2 dL_simulate_18 rfl ?_
    exact gz_iret B2 Z2 dL_simulate_19 ⟨by rw [hcz], Or.inl ⟨hcz, Sv, hPz, rfl⟩⟩
  · obtain ⟨jz, hcz, hjz, hPz⟩ := hx
    have B2 := gB_up B (by rw [hcap.1]; exact hcap.2.2.1) (by rw [hcap.2.1]; exact hcap.2.2.2)
    have Z2 : gZ Y (xUp X) (wP (cd_sim m) (laV (plT (vw S 0) z m.toNat)) (fun S' => fr S S' 1) (fun S' => S' = S)) := ⟨Z.1, by show xCells X + 1 ≤ 1; rw [hcap.1]; decide, by show xSlots X + 6 ≤ 6; rw [hcap.2.1]; decide⟩
    rcases jz with _ | jz
    · cases hjz
      refine g_catch B2 [] ⟨0, 11, 14, 13⟩ [] tab (fun z hz => absurd hz List.not_mem_nil) (by decide) (by decide) wl_A (by decide) (fun q9 => ?_)
      show gW Y (xUp X) Sv 14 [(0, .ref (yA Y 72)), (1, .long (lI z)), (3, .int (iI m)), (4, .ref (yA Y 91))] [.ref q9]
      refine g_astore (q := 16) B2 dL_simulate_14 rfl (by decide) (L' := [(5, .ref q9), (0, .ref (yA Y 72)), (1, .long (lI z)), (3, .int (iI m)), (4, .ref (yA Y 91))]) rfl ?_
      refine g_iconst (q := 17) B2 dL_simulate_16 rfl ?_
      exact gz_iret B2 Z2 dL_simulate_17 ⟨by rw [hcz]; rfl, Or.inr ⟨by rw [hcz]; decide, hPz⟩⟩
    · cases hjz

set_option maxHeartbeats 4000000 in
theorem c_L_save {Y : gY} {l : Launch} {S : SS} (hst : l.stackTraces = false) (hw : wf (vw S 0)) (s : Int) (hs : rI s) : gVH Y l yL_save cL_save 4 [(0, 9, 12, 28)] (mX7_save.2.2.2.2 + 11) S [.ref (yA Y 72), .int (iI s), .ref (yA Y 91)] (wP (cd_01 s) (S (4 * 0) 0) (fun S' => vw S' (2 + s.toNat) = vw S 0 ∧ S' (80 + s.toNat) 0 = 1 ∧ ∀ m : Nat, (m < 4 * (2 + s.toNat) ∨ 4 * (2 + s.toNat) + 4 ≤ m) → m ≠ 80 + s.toNat → S' m = S m) (fun S' => S' = S)) := by
  refine gVH_of (by decide) (Nat.le_of_ble_eq_true rfl) ?_
  intro X hXl B tab hcap Z
  subst hXl
  show gW Y X S 0 [(0, .ref (yA Y 72)), (1, .int (iI s)), (2, .ref (yA Y 91))] []
  refine g_aload_n (q := 1) B dL_save_0 rfl 2 rfl ?_
  refine g_iconst (q := 2) B dL_save_1 rfl ?_
  refine g_aload_n (q := 3) B dL_save_2 rfl 0 rfl ?_
  refine g_iload_n (q := 4) B dL_save_3 rfl 1 rfl ?_
  refine g_callX (As := [.int (iI s)]) (st := [.int (iI 0), .ref (yA Y 91)]) B dL_save_4 (c_X7_save (Y := Y) (l := xL X) (S := S) hst hw s hs) eX7_save w926 (Nat.le_refl _) rfl rfl (Nat.le_of_ble_eq_true rfl) (by rw [hcap.1]; exact hcap.2.2.1) (by rw [hcap.2.1]; exact hcap.2.2.2) (fun v Sv hv => ?_) (fun Ex Sv hx => ?_)
  · obtain ⟨hcz, rfl, hPz⟩ := hv
    have B2 := gB_up B (by rw [hcap.1]; exact hcap.2.2.1) (by rw [hcap.2.1]; exact hcap.2.2.2)
    have Z2 : gZ Y (xUp X) (wP (cd_01 s) (S (4 * 0) 0) (fun S' => vw S' (2 + s.toNat) = vw S 0 ∧ S' (80 + s.toNat) 0 = 1 ∧ ∀ m : Nat, (m < 4 * (2 + s.toNat) ∨ 4 * (2 + s.toNat) + 4 ≤ m) → m ≠ 80 + s.toNat → S' m = S m) (fun S' => S' = S)) := ⟨Z.1, by show xCells X + 1 ≤ 1; rw [hcap.1]; decide, by show xSlots X + 6 ≤ 6; rw [hcap.2.1]; decide⟩
    refine g_i2lN (q := 8) B2 dL_save_7 rfl ?_
    refine g_last (n := 91) (q := 9) B2 dL_save_8 rfl rfl (fun _ => rfl) (by decide) (by decide) (by decide) ?_
    refine g_goto (q := 15) B2 dL_save_9 (by decide) ?_
    refine g_iconst (q := 16) B2 dL_save_15 rfl ?_
    exact gz_iret B2 Z2 dL_save_16 ⟨by rw [hcz], Or.inl ⟨hcz, Sv, hPz, rfl⟩⟩
  · obtain ⟨jz, hcz, hjz, hPz⟩ := hx
    have B2 := gB_up B (by rw [hcap.1]; exact hcap.2.2.1) (by rw [hcap.2.1]; exact hcap.2.2.2)
    have Z2 : gZ Y (xUp X) (wP (cd_01 s) (S (4 * 0) 0) (fun S' => vw S' (2 + s.toNat) = vw S 0 ∧ S' (80 + s.toNat) 0 = 1 ∧ ∀ m : Nat, (m < 4 * (2 + s.toNat) ∨ 4 * (2 + s.toNat) + 4 ≤ m) → m ≠ 80 + s.toNat → S' m = S m) (fun S' => S' = S)) := ⟨Z.1, by show xCells X + 1 ≤ 1; rw [hcap.1]; decide, by show xSlots X + 6 ≤ 6; rw [hcap.2.1]; decide⟩
    rcases jz with _ | jz
    · cases hjz
      refine g_catch B2 [] ⟨0, 9, 12, 28⟩ [] tab (fun z hz => absurd hz List.not_mem_nil) (by decide) (by decide) wl_I (by decide) (fun q9 => ?_)
      show gW Y (xUp X) Sv 12 [(0, .ref (yA Y 72)), (1, .int (iI s)), (2, .ref (yA Y 91))] [.ref q9]
      refine g_astore_n (q := 13) B2 dL_save_12 rfl (by decide) (L' := [(3, .ref q9), (0, .ref (yA Y 72)), (1, .int (iI s)), (2, .ref (yA Y 91))]) rfl ?_
      refine g_iconst (q := 14) B2 dL_save_13 rfl ?_
      exact gz_iret B2 Z2 dL_save_14 ⟨by rw [hcz]; rfl, Or.inr ⟨by rw [hcz]; decide, hPz⟩⟩
    · cases hjz

set_option maxHeartbeats 4000000 in
theorem c_L_restore {Y : gY} {l : Launch} {S : SS} (hst : l.stackTraces = false) (hw : wf (vw S 0)) (hz80 : S 80 0 = 0 ∨ S 80 0 = 1) (hz81 : S 81 0 = 0 ∨ S 81 0 = 1) (s : Int) (hs : rI s) : gVH Y l yL_restore cL_restore 4 [(0, 9, 12, 28), (0, 9, 15, 15)] (mX7_restore.2.2.2.2 + 11) S [.ref (yA Y 72), .int (iI s), .ref (yA Y 91)] (wP (cd_rest s (S (80 + s.toNat) 0)) (vw S (2 + s.toNat) 0) (fun S' => vw S' 0 = vw S (2 + s.toNat) ∧ (S' 75 0 = S 75 0 ∧ S' 75 1 = 0) ∧ ∀ m : Nat, 4 ≤ m → m ≠ 75 → S' m = S m) (fun S' => S' = S)) := by
  refine gVH_of (by decide) (Nat.le_of_ble_eq_true rfl) ?_
  intro X hXl B tab hcap Z
  subst hXl
  show gW Y X S 0 [(0, .ref (yA Y 72)), (1, .int (iI s)), (2, .ref (yA Y 91))] []
  refine g_aload_n (q := 1) B dL_restore_0 rfl 2 rfl ?_
  refine g_iconst (q := 2) B dL_restore_1 rfl ?_
  refine g_aload_n (q := 3) B dL_restore_2 rfl 0 rfl ?_
  refine g_iload_n (q := 4) B dL_restore_3 rfl 1 rfl ?_
  refine g_callX (As := [.int (iI s)]) (st := [.int (iI 0), .ref (yA Y 91)]) B dL_restore_4 (c_X7_restore (Y := Y) (l := xL X) (S := S) hst hw hz80 hz81 s hs) eX7_restore w934 (Nat.le_refl _) rfl rfl (Nat.le_of_ble_eq_true rfl) (by rw [hcap.1]; exact hcap.2.2.1) (by rw [hcap.2.1]; exact hcap.2.2.2) (fun v Sv hv => ?_) (fun Ex Sv hx => ?_)
  · obtain ⟨hcz, rfl, hPz⟩ := hv
    have B2 := gB_up B (by rw [hcap.1]; exact hcap.2.2.1) (by rw [hcap.2.1]; exact hcap.2.2.2)
    have Z2 : gZ Y (xUp X) (wP (cd_rest s (S (80 + s.toNat) 0)) (vw S (2 + s.toNat) 0) (fun S' => vw S' 0 = vw S (2 + s.toNat) ∧ (S' 75 0 = S 75 0 ∧ S' 75 1 = 0) ∧ ∀ m : Nat, 4 ≤ m → m ≠ 75 → S' m = S m) (fun S' => S' = S)) := ⟨Z.1, by show xCells X + 1 ≤ 1; rw [hcap.1]; decide, by show xSlots X + 6 ≤ 6; rw [hcap.2.1]; decide⟩
    refine g_i2lN (q := 8) B2 dL_restore_7 rfl ?_
    refine g_last (n := 91) (q := 9) B2 dL_restore_8 rfl rfl (fun _ => rfl) (by decide) (by decide) (by decide) ?_
    refine g_goto (q := 18) B2 dL_restore_9 (by decide) ?_
    refine g_iconst (q := 19) B2 dL_restore_18 rfl ?_
    exact gz_iret B2 Z2 dL_restore_19 ⟨by rw [hcz], Or.inl ⟨hcz, Sv, hPz, rfl⟩⟩
  · obtain ⟨jz, hcz, hjz, hPz⟩ := hx
    have B2 := gB_up B (by rw [hcap.1]; exact hcap.2.2.1) (by rw [hcap.2.1]; exact hcap.2.2.2)
    have Z2 : gZ Y (xUp X) (wP (cd_rest s (S (80 + s.toNat) 0)) (vw S (2 + s.toNat) 0) (fun S' => vw S' 0 = vw S (2 + s.toNat) ∧ (S' 75 0 = S 75 0 ∧ S' 75 1 = 0) ∧ ∀ m : Nat, 4 ≤ m → m ≠ 75 → S' m = S m) (fun S' => S' = S)) := ⟨Z.1, by show xCells X + 1 ≤ 1; rw [hcap.1]; decide, by show xSlots X + 6 ≤ 6; rw [hcap.2.1]; decide⟩
    rcases jz with _ | _ | jz
    · cases hjz
      refine g_catch B2 [] ⟨0, 9, 12, 28⟩ [⟨0, 9, 15, 15⟩] tab (fun z hz => absurd hz List.not_mem_nil) (by decide) (by decide) wl_I (by decide) (fun q9 => ?_)
      show gW Y (xUp X) Sv 12 [(0, .ref (yA Y 72)), (1, .int (iI s)), (2, .ref (yA Y 91))] [.ref q9]
      refine g_astore_n (q := 13) B2 dL_restore_12 rfl (by decide) (L' := [(3, .ref q9), (0, .ref (yA Y 72)), (1, .int (iI s)), (2, .ref (yA Y 91))]) rfl ?_
      refine g_iconst (q := 14) B2 dL_restore_13 rfl ?_
      exact gz_iret B2 Z2 dL_restore_14 ⟨by rw [hcz]; rfl, Or.inr ⟨by rw [hcz]; decide, hPz⟩⟩
    · cases hjz
      refine g_catch B2 [⟨0, 9, 12, 28⟩] ⟨0, 9, 15, 15⟩ [] tab (fun z hz => by cases List.mem_singleton.mp hz; exact ⟨by decide, eI, wl_I, by decide⟩) (by decide) (by decide) wl_S (by decide) (fun q9 => ?_)
      show gW Y (xUp X) Sv 15 [(0, .ref (yA Y 72)), (1, .int (iI s)), (2, .ref (yA Y 91))] [.ref q9]
      refine g_astore_n (q := 16) B2 dL_restore_15 rfl (by decide) (L' := [(3, .ref q9), (0, .ref (yA Y 72)), (1, .int (iI s)), (2, .ref (yA Y 91))]) rfl ?_
      refine g_iconst (q := 17) B2 dL_restore_16 rfl ?_
      exact gz_iret B2 Z2 dL_restore_17 ⟨by rw [hcz]; rfl, Or.inr ⟨by rw [hcz]; decide, hPz⟩⟩
    · cases hjz
