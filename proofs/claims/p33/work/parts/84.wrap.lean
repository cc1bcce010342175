set_option maxHeartbeats 4000000 in
theorem c_L_tryAppend {Y : gY} {l : Launch} {S : SS} (hst : l.stackTraces = false) (hz : 0 ≤ S 73 0 ∧ S 73 0 ≤ 120) (ht : ∀ c : Int, 0 ≤ c → c < 120 → 0 ≤ S 74 c ∧ S 74 c ≤ 255) (c : Int) (hc : rI c) : gVH Y l yL_tryAppend cL_tryAppend 3 [(0, 5, 6, 20), (0, 5, 10, 31)] (mX7_append.2.2.2.2 + 11) S [.ref (yA Y 72), .int (iI c)] (yP (cd_len (S 73 0) c) (S 73 0 + 1) (-9999002) (-9999003) (0) (fun S' => S' = us (us S 74 (uq (S 74) (S 73 0) c)) 73 (uq (S 73) 0 (S 73 0 + 1))) (fun S' => S' = S)) := by
  refine gVH_of (by decide) (Nat.le_of_ble_eq_true rfl) ?_
  intro X hXl B tab hcap Z
  subst hXl
  show gW Y X S 0 [(0, .ref (yA Y 72)), (1, .int (iI c))] []
  refine g_aload_n (q := 1) B dL_tryAppend_0 rfl 0 rfl ?_
  refine g_iload_n (q := 2) B dL_tryAppend_1 rfl 1 rfl ?_
  refine g_callX (As := [.int (iI c)]) (st := []) B dL_tryAppend_2 (c_X7_append (Y := Y) (l := xL X) (S := S) hst hz ht c hc) eX7_append w187 (Nat.le_refl _) rfl rfl (Nat.le_of_ble_eq_true rfl) (by rw [hcap.1]; exact hcap.2.2.1) (by rw [hcap.2.1]; exact hcap.2.2.2) (fun v Sv hv => ?_) (fun Ex Sv hx => ?_)
  · obtain ⟨hcz, rfl, hPz⟩ := hv
    have B2 := gB_up B (by rw [hcap.1]; exact hcap.2.2.1) (by rw [hcap.2.1]; exact hcap.2.2.2)
    have Z2 : gZ Y (xUp X) (yP (cd_len (S 73 0) c) (S 73 0 + 1) (-9999002) (-9999003) (0) (fun S' => S' = us (us S 74 (uq (S 74) (S 73 0) c)) 73 (uq (S 73) 0 (S 73 0 + 1))) (fun S' => S' = S)) := ⟨Z.1, by show xCells X + 1 ≤ 1; rw [hcap.1]; decide, by show xSlots X + 6 ≤ 6; rw [hcap.2.1]; decide⟩
    exact gz_iret B2 Z2 dL_tryAppend_5 ⟨by rw [tv_0 hcz], Or.inl ⟨hcz, hPz⟩⟩
  · obtain ⟨jz, hcz, hjz, hPz⟩ := hx
    have B2 := gB_up B (by rw [hcap.1]; exact hcap.2.2.1) (by rw [hcap.2.1]; exact hcap.2.2.2)
    have Z2 : gZ Y (xUp X) (yP (cd_len (S 73 0) c) (S 73 0 + 1) (-9999002) (-9999003) (0) (fun S' => S' = us (us S 74 (uq (S 74) (S 73 0) c)) 73 (uq (S 73) 0 (S 73 0 + 1))) (fun S' => S' = S)) := ⟨Z.1, by show xCells X + 1 ≤ 1; rw [hcap.1]; decide, by show xSlots X + 6 ≤ 6; rw [hcap.2.1]; decide⟩
    rcases jz with _ | _ | jz
    · cases hjz
      refine g_catch B2 [] ⟨0, 5, 6, 20⟩ [⟨0, 5, 10, 31⟩] tab (fun z hz => absurd hz List.not_mem_nil) (by decide) (by decide) wl_A (by decide) (fun q9 => ?_)
      show gW Y (xUp X) Sv 6 [(0, .ref (yA Y 72)), (1, .int (iI c))] [.ref q9]
      refine g_astore_n (q := 7) B2 dL_tryAppend_6 rfl (by decide) (L' := [(2, .ref q9), (0, .ref (yA Y 72)), (1, .int (iI c))]) rfl ?_
      refine g_ldc (z := -9999002) (q := 9) B2 dL_tryAppend_7 rfl w279 (by decide) ?_
      exact gz_iret B2 Z2 dL_tryAppend_9 ⟨by rw [hcz]; rfl, Or.inr ⟨by rw [hcz]; decide, hPz⟩⟩
    · cases hjz
      refine g_catch B2 [⟨0, 5, 6, 20⟩] ⟨0, 5, 10, 31⟩ [] tab (fun z hz => by cases List.mem_singleton.mp hz; exact ⟨by decide, eA, wl_A, by decide⟩) (by decide) (by decide) wl_S (by decide) (fun q9 => ?_)
      show gW Y (xUp X) Sv 10 [(0, .ref (yA Y 72)), (1, .int (iI c))] [.ref q9]
      refine g_astore_n (q := 11) B2 dL_tryAppend_10 rfl (by decide) (L' := [(2, .ref q9), (0, .ref (yA Y 72)), (1, .int (iI c))]) rfl ?_
      refine g_ldc (z := -9999003) (q := 13) B2 dL_tryAppend_11 rfl w280 (by decide) ?_
      exact gz_iret B2 Z2 dL_tryAppend_13 ⟨by rw [hcz]; rfl, Or.inr ⟨by rw [hcz]; decide, hPz⟩⟩
    · cases hjz

set_option maxHeartbeats 4000000 in
theorem c_L_tryAbout {Y : gY} {l : Launch} {S : SS} (hst : l.stackTraces = false) (hw : wf (vw S 0)) (u : Int) (hu : rI u) : gVH Y l yL_tryAbout cL_tryAbout 3 [(0, 5, 6, 20)] (mX7_about.2.2.2.2 + 11) S [.ref (yA Y 72), .int (iI u)] (yP (cd_about u) (vl_about (vw S 0) u) (-9999002) (0) (0) (fun S' => S' = S) (fun S' => S' = S)) := by
  refine gVH_of (by decide) (Nat.le_of_ble_eq_true rfl) ?_
  intro X hXl B tab hcap Z
  subst hXl
  show gW Y X S 0 [(0, .ref (yA Y 72)), (1, .int (iI u))] []
  refine g_aload_n (q := 1) B dL_tryAbout_0 rfl 0 rfl ?_
  refine g_iload_n (q := 2) B dL_tryAbout_1 rfl 1 rfl ?_
  refine g_callX (As := [.int (iI u)]) (st := []) B dL_tryAbout_2 (c_X7_about (Y := Y) (l := xL X) (S := S) hst hw u hu) eX7_about w502 (Nat.le_refl _) rfl rfl (Nat.le_of_ble_eq_true rfl) (by rw [hcap.1]; exact hcap.2.2.1) (by rw [hcap.2.1]; exact hcap.2.2.2) (fun v Sv hv => ?_) (fun Ex Sv hx => ?_)
  · obtain ⟨hcz, rfl, hPz⟩ := hv
    have B2 := gB_up B (by rw [hcap.1]; exact hcap.2.2.1) (by rw [hcap.2.1]; exact hcap.2.2.2)
    have Z2 : gZ Y (xUp X) (yP (cd_about u) (vl_about (vw S 0) u) (-9999002) (0) (0) (fun S' => S' = S) (fun S' => S' = S)) := ⟨Z.1, by show xCells X + 1 ≤ 1; rw [hcap.1]; decide, by show xSlots X + 6 ≤ 6; rw [hcap.2.1]; decide⟩
    exact gz_iret B2 Z2 dL_tryAbout_5 ⟨by rw [tv_0 hcz], Or.inl ⟨hcz, hPz⟩⟩
  · obtain ⟨jz, hcz, hjz, hPz⟩ := hx
    have B2 := gB_up B (by rw [hcap.1]; exact hcap.2.2.1) (by rw [hcap.2.1]; exact hcap.2.2.2)
    have Z2 : gZ Y (xUp X) (yP (cd_about u) (vl_about (vw S 0) u) (-9999002) (0) (0) (fun S' => S' = S) (fun S' => S' = S)) := ⟨Z.1, by show xCells X + 1 ≤ 1; rw [hcap.1]; decide, by show xSlots X + 6 ≤ 6; rw [hcap.2.1]; decide⟩
    rcases jz with _ | jz
    · cases hjz
      refine g_catch B2 [] ⟨0, 5, 6, 20⟩ [] tab (fun z hz => absurd hz List.not_mem_nil) (by decide) (by decide) wl_A (by decide) (fun q9 => ?_)
      show gW Y (xUp X) Sv 6 [(0, .ref (yA Y 72)), (1, .int (iI u))] [.ref q9]
      refine g_astore_n (q := 7) B2 dL_tryAbout_6 rfl (by decide) (L' := [(2, .ref q9), (0, .ref (yA Y 72)), (1, .int (iI u))]) rfl ?_
      refine g_ldc (z := -9999002) (q := 9) B2 dL_tryAbout_7 rfl w279 (by decide) ?_
      exact gz_iret B2 Z2 dL_tryAbout_9 ⟨by rw [hcz]; rfl, Or.inr ⟨by rw [hcz]; decide, hPz⟩⟩
    · cases hjz

set_option maxHeartbeats 4000000 in
theorem c_L_tryJewel {Y : gY} {l : Launch} {S : SS} (hst : l.stackTraces = false) (hw : wf (vw S 0)) (j : Int) (hj : rI j) (u : Int) (hu : rI u) : gVH Y l yL_tryJewel cL_tryJewel 4 [(0, 6, 7, 13), (0, 6, 11, 20)] (mX7_jewelOf.2.2.2.2 + 11) S [.ref (yA Y 72), .int (iI j), .int (iI u)] (yP (cd_jewelOf (vw S 0) j u) (vl_jewelOf (vw S 0) j u) (-9999001) (-9999002) (0) (fun S' => S' = S) (fun S' => S' = S)) := by
  refine gVH_of (by decide) (Nat.le_of_ble_eq_true rfl) ?_
  intro X hXl B tab hcap Z
  subst hXl
  show gW Y X S 0 [(0, .ref (yA Y 72)), (1, .int (iI j)), (2, .int (iI u))] []
  refine g_aload_n (q := 1) B dL_tryJewel_0 rfl 0 rfl ?_
  refine g_iload_n (q := 2) B dL_tryJewel_1 rfl 1 rfl ?_
  refine g_iload_n (q := 3) B dL_tryJewel_2 rfl 2 rfl ?_
  refine g_callX (As := [.int (iI j), .int (iI u)]) (st := []) B dL_tryJewel_3 (c_X7_jewelOf (Y := Y) (l := xL X) (S := S) hst hw j hj u hu) eX7_jewelOf w545 (Nat.le_refl _) rfl rfl (Nat.le_of_ble_eq_true rfl) (by rw [hcap.1]; exact hcap.2.2.1) (by rw [hcap.2.1]; exact hcap.2.2.2) (fun v Sv hv => ?_) (fun Ex Sv hx => ?_)
  · obtain ⟨hcz, rfl, hPz⟩ := hv
    have B2 := gB_up B (by rw [hcap.1]; exact hcap.2.2.1) (by rw [hcap.2.1]; exact hcap.2.2.2)
    have Z2 : gZ Y (xUp X) (yP (cd_jewelOf (vw S 0) j u) (vl_jewelOf (vw S 0) j u) (-9999001) (-9999002) (0) (fun S' => S' = S) (fun S' => S' = S)) := ⟨Z.1, by show xCells X + 1 ≤ 1; rw [hcap.1]; decide, by show xSlots X + 6 ≤ 6; rw [hcap.2.1]; decide⟩
    exact gz_iret B2 Z2 dL_tryJewel_6 ⟨by rw [tv_0 hcz], Or.inl ⟨hcz, hPz⟩⟩
  · obtain ⟨jz, hcz, hjz, hPz⟩ := hx
    have B2 := gB_up B (by rw [hcap.1]; exact hcap.2.2.1) (by rw [hcap.2.1]; exact hcap.2.2.2)
    have Z2 : gZ Y (xUp X) (yP (cd_jewelOf (vw S 0) j u) (vl_jewelOf (vw S 0) j u) (-9999001) (-9999002) (0) (fun S' => S' = S) (fun S' => S' = S)) := ⟨Z.1, by show xCells X + 1 ≤ 1; rw [hcap.1]; decide, by show xSlots X + 6 ≤ 6; rw [hcap.2.1]; decide⟩
    rcases jz with _ | _ | jz
    · cases hjz
      refine g_catch B2 [] ⟨0, 6, 7, 13⟩ [⟨0, 6, 11, 20⟩] tab (fun z hz => absurd hz List.not_mem_nil) (by decide) (by decide) wl_I (by decide) (fun q9 => ?_)
      show gW Y (xUp X) Sv 7 [(0, .ref (yA Y 72)), (1, .int (iI j)), (2, .int (iI u))] [.ref q9]
      refine g_astore_n (q := 8) B2 dL_tryJewel_7 rfl (by decide) (L' := [(3, .ref q9), (0, .ref (yA Y 72)), (1, .int (iI j)), (2, .int (iI u))]) rfl ?_
      refine g_ldc (z := -9999001) (q := 10) B2 dL_tryJewel_8 rfl w573 (by decide) ?_
      exact gz_iret B2 Z2 dL_tryJewel_10 ⟨by rw [hcz]; rfl, Or.inr ⟨by rw [hcz]; decide, hPz⟩⟩
    · cases hjz
      refine g_catch B2 [⟨0, 6, 7, 13⟩] ⟨0, 6, 11, 20⟩ [] tab (fun z hz => by cases List.mem_singleton.mp hz; exact ⟨by decide, eI, wl_I, by decide⟩) (by decide) (by decide) wl_A (by decide) (fun q9 => ?_)
      show gW Y (xUp X) Sv 11 [(0, .ref (yA Y 72)), (1, .int (iI j)), (2, .int (iI u))] [.ref q9]
      refine g_astore_n (q := 12) B2 dL_tryJewel_11 rfl (by decide) (L' := [(3, .ref q9), (0, .ref (yA Y 72)), (1, .int (iI j)), (2, .int (iI u))]) rfl ?_
      refine g_ldc (z := -9999002) (q := 14) B2 dL_tryJewel_12 rfl w279 (by decide) ?_
      exact gz_iret B2 Z2 dL_tryJewel_14 ⟨by rw [hcz]; rfl, Or.inr ⟨by rw [hcz]; decide, hPz⟩⟩
    · cases hjz

set_option maxHeartbeats 4000000 in
theorem c_L_tryPlace {Y : gY} {l : Launch} {S : SS} (hst : l.stackTraces = false) (hw : wf (vw S 0)) (p : Int) (hp : rI p) (u : Int) (hu : rI u) : gVH Y l yL_tryPlace cL_tryPlace 4 [(0, 6, 7, 13), (0, 6, 11, 20)] (mX7_placeOf.2.2.2.2 + 11) S [.ref (yA Y 72), .int (iI p), .int (iI u)] (yP (cd_placeOf (vw S 0) p u) (vl_placeOf (vw S 0) p u) (-9999001) (-9999002) (0) (fun S' => S' = S) (fun S' => S' = S)) := by
  refine gVH_of (by decide) (Nat.le_of_ble_eq_true rfl) ?_
  intro X hXl B tab hcap Z
  subst hXl
  show gW Y X S 0 [(0, .ref (yA Y 72)), (1, .int (iI p)), (2, .int (iI u))] []
  refine g_aload_n (q := 1) B dL_tryPlace_0 rfl 0 rfl ?_
  refine g_iload_n (q := 2) B dL_tryPlace_1 rfl 1 rfl ?_
  refine g_iload_n (q := 3) B dL_tryPlace_2 rfl 2 rfl ?_
  refine g_callX (As := [.int (iI p), .int (iI u)]) (st := []) B dL_tryPlace_3 (c_X7_placeOf (Y := Y) (l := xL X) (S := S) hst hw p hp u hu) eX7_placeOf w577 (Nat.le_refl _) rfl rfl (Nat.le_of_ble_eq_true rfl) (by rw [hcap.1]; exact hcap.2.2.1) (by rw [hcap.2.1]; exact hcap.2.2.2) (fun v Sv hv => ?_) (fun Ex Sv hx => ?_)
  · obtain ⟨hcz, rfl, hPz⟩ := hv
    have B2 := gB_up B (by rw [hcap.1]; exact hcap.2.2.1) (by rw [hcap.2.1]; exact hcap.2.2.2)
    have Z2 : gZ Y (xUp X) (yP (cd_placeOf (vw S 0) p u) (vl_placeOf (vw S 0) p u) (-9999001) (-9999002) (0) (fun S' => S' = S) (fun S' => S' = S)) := ⟨Z.1, by show xCells X + 1 ≤ 1; rw [hcap.1]; decide, by show xSlots X + 6 ≤ 6; rw [hcap.2.1]; decide⟩
    exact gz_iret B2 Z2 dL_tryPlace_6 ⟨by rw [tv_0 hcz], Or.inl ⟨hcz, hPz⟩⟩
  · obtain ⟨jz, hcz, hjz, hPz⟩ := hx
    have B2 := gB_up B (by rw [hcap.1]; exact hcap.2.2.1) (by rw [hcap.2.1]; exact hcap.2.2.2)
    have Z2 : gZ Y (xUp X) (yP (cd_placeOf (vw S 0) p u) (vl_placeOf (vw S 0) p u) (-9999001) (-9999002) (0) (fun S' => S' = S) (fun S' => S' = S)) := ⟨Z.1, by show xCells X + 1 ≤ 1; rw [hcap.1]; decide, by show xSlots X + 6 ≤ 6; rw [hcap.2.1]; decide⟩
    rcases jz with _ | _ | jz
    · cases hjz
      refine g_catch B2 [] ⟨0, 6, 7, 13⟩ [⟨0, 6, 11, 20⟩] tab (fun z hz => absurd hz List.not_mem_nil) (by decide) (by decide) wl_I (by decide) (fun q9 => ?_)
      show gW Y (xUp X) Sv 7 [(0, .ref (yA Y 72)), (1, .int (iI p)), (2, .int (iI u))] [.ref q9]
      refine g_astore_n (q := 8) B2 dL_tryPlace_7 rfl (by decide) (L' := [(3, .ref q9), (0, .ref (yA Y 72)), (1, .int (iI p)), (2, .int (iI u))]) rfl ?_
      refine g_ldc (z := -9999001) (q := 10) B2 dL_tryPlace_8 rfl w573 (by decide) ?_
      exact gz_iret B2 Z2 dL_tryPlace_10 ⟨by rw [hcz]; rfl, Or.inr ⟨by rw [hcz]; decide, hPz⟩⟩
    · cases hjz
      refine g_catch B2 [⟨0, 6, 7, 13⟩] ⟨0, 6, 11, 20⟩ [] tab (fun z hz => by cases List.mem_singleton.mp hz; exact ⟨by decide, eI, wl_I, by decide⟩) (by decide) (by decide) wl_A (by decide) (fun q9 => ?_)
      show gW Y (xUp X) Sv 11 [(0, .ref (yA Y 72)), (1, .int (iI p)), (2, .int (iI u))] [.ref q9]
      refine g_astore_n (q := 12) B2 dL_tryPlace_11 rfl (by decide) (L' := [(3, .ref q9), (0, .ref (yA Y 72)), (1, .int (iI p)), (2, .int (iI u))]) rfl ?_
      refine g_ldc (z := -9999002) (q := 14) B2 dL_tryPlace_12 rfl w279 (by decide) ?_
      exact gz_iret B2 Z2 dL_tryPlace_14 ⟨by rw [hcz]; rfl, Or.inr ⟨by rw [hcz]; decide, hPz⟩⟩
    · cases hjz

set_option maxHeartbeats 4000000 in
theorem c_L_tryRun {Y : gY} {l : Launch} {S : SS} (hst : l.stackTraces = false) (hw : wf (vw S 0)) (r : Int) (hr : rI r) (u : Int) (hu : rI u) : gVH Y l yL_tryRun cL_tryRun 4 [(0, 6, 7, 13), (0, 6, 11, 20)] (mX7_runOf.2.2.2.2 + 11) S [.ref (yA Y 72), .int (iI r), .int (iI u)] (yP (cd_runOf (vw S 0) r u) (vl_runOf (vw S 0) r u) (-9999001) (-9999002) (0) (fun S' => S' = S) (fun S' => S' = S)) := by
  refine gVH_of (by decide) (Nat.le_of_ble_eq_true rfl) ?_
  intro X hXl B tab hcap Z
  subst hXl
  show gW Y X S 0 [(0, .ref (yA Y 72)), (1, .int (iI r)), (2, .int (iI u))] []
  refine g_aload_n (q := 1) B dL_tryRun_0 rfl 0 rfl ?_
  refine g_iload_n (q := 2) B dL_tryRun_1 rfl 1 rfl ?_
  refine g_iload_n (q := 3) B dL_tryRun_2 rfl 2 rfl ?_
  refine g_callX (As := [.int (iI r), .int (iI u)]) (st := []) B dL_tryRun_3 (c_X7_runOf (Y := Y) (l := xL X) (S := S) hst hw r hr u hu) eX7_runOf w594 (Nat.le_refl _) rfl rfl (Nat.le_of_ble_eq_true rfl) (by rw [hcap.1]; exact hcap.2.2.1) (by rw [hcap.2.1]; exact hcap.2.2.2) (fun v Sv hv => ?_) (fun Ex Sv hx => ?_)
  · obtain ⟨hcz, rfl, hPz⟩ := hv
    have B2 := gB_up B (by rw [hcap.1]; exact hcap.2.2.1) (by rw [hcap.2.1]; exact hcap.2.2.2)
    have Z2 : gZ Y (xUp X) (yP (cd_runOf (vw S 0) r u) (vl_runOf (vw S 0) r u) (-9999001) (-9999002) (0) (fun S' => S' = S) (fun S' => S' = S)) := ⟨Z.1, by show xCells X + 1 ≤ 1; rw [hcap.1]; decide, by show xSlots X + 6 ≤ 6; rw [hcap.2.1]; decide⟩
    exact gz_iret B2 Z2 dL_tryRun_6 ⟨by rw [tv_0 hcz], Or.inl ⟨hcz, hPz⟩⟩
  · obtain ⟨jz, hcz, hjz, hPz⟩ := hx
    have B2 := gB_up B (by rw [hcap.1]; exact hcap.2.2.1) (by rw [hcap.2.1]; exact hcap.2.2.2)
    have Z2 : gZ Y (xUp X) (yP (cd_runOf (vw S 0) r u) (vl_runOf (vw S 0) r u) (-9999001) (-9999002) (0) (fun S' => S' = S) (fun S' => S' = S)) := ⟨Z.1, by show xCells X + 1 ≤ 1; rw [hcap.1]; decide, by show xSlots X + 6 ≤ 6; rw [hcap.2.1]; decide⟩
    rcases jz with _ | _ | jz
    · cases hjz
      refine g_catch B2 [] ⟨0, 6, 7, 13⟩ [⟨0, 6, 11, 20⟩] tab (fun z hz => absurd hz List.not_mem_nil) (by decide) (by decide) wl_I (by decide) (fun q9 => ?_)
      show gW Y (xUp X) Sv 7 [(0, .ref (yA Y 72)), (1, .int (iI r)), (2, .int (iI u))] [.ref q9]
      refine g_astore_n (q := 8) B2 dL_tryRun_7 rfl (by decide) (L' := [(3, .ref q9), (0, .ref (yA Y 72)), (1, .int (iI r)), (2, .int (iI u))]) rfl ?_
      refine g_ldc (z := -9999001) (q := 10) B2 dL_tryRun_8 rfl w573 (by decide) ?_
      exact gz_iret B2 Z2 dL_tryRun_10 ⟨by rw [hcz]; rfl, Or.inr ⟨by rw [hcz]; decide, hPz⟩⟩
    · cases hjz
      refine g_catch B2 [⟨0, 6, 7, 13⟩] ⟨0, 6, 11, 20⟩ [] tab (fun z hz => by cases List.mem_singleton.mp hz; exact ⟨by decide, eI, wl_I, by decide⟩) (by decide) (by decide) wl_A (by decide) (fun q9 => ?_)
      show gW Y (xUp X) Sv 11 [(0, .ref (yA Y 72)), (1, .int (iI r)), (2, .int (iI u))] [.ref q9]
      refine g_astore_n (q := 12) B2 dL_tryRun_11 rfl (by decide) (L' := [(3, .ref q9), (0, .ref (yA Y 72)), (1, .int (iI r)), (2, .int (iI u))]) rfl ?_
      refine g_ldc (z := -9999002) (q := 14) B2 dL_tryRun_12 rfl w279 (by decide) ?_
      exact gz_iret B2 Z2 dL_tryRun_14 ⟨by rw [hcz]; rfl, Or.inr ⟨by rw [hcz]; decide, hPz⟩⟩
    · cases hjz

set_option maxHeartbeats 4000000 in
theorem c_L_tryHas {Y : gY} {l : Launch} {S : SS} (hst : l.stackTraces = false) (hw : wf (vw S 0)) (s : Int) (hs : rI s) (k : Int) (hk : rI k) : gVH Y l yL_tryHas cL_tryHas 4 [(0, 6, 7, 13)] (mX7_has.2.2.2.2 + 11) S [.ref (yA Y 72), .int (iI s), .int (iI k)] (yP (cd_has s k) (hasF (vw S 0) s k) (-9999001) (0) (0) (fun S' => S' = S) (fun S' => S' = S)) := by
  refine gVH_of (by decide) (Nat.le_of_ble_eq_true rfl) ?_
  intro X hXl B tab hcap Z
  subst hXl
  show gW Y X S 0 [(0, .ref (yA Y 72)), (1, .int (iI s)), (2, .int (iI k))] []
  refine g_aload_n (q := 1) B dL_tryHas_0 rfl 0 rfl ?_
  refine g_iload_n (q := 2) B dL_tryHas_1 rfl 1 rfl ?_
  refine g_iload_n (q := 3) B dL_tryHas_2 rfl 2 rfl ?_
  refine g_callX (As := [.int (iI s), .int (iI k)]) (st := []) B dL_tryHas_3 (c_X7_has (Y := Y) (l := xL X) (S := S) hst hw s hs k hk) eX7_has w612 (Nat.le_refl _) rfl rfl (Nat.le_of_ble_eq_true rfl) (by rw [hcap.1]; exact hcap.2.2.1) (by rw [hcap.2.1]; exact hcap.2.2.2) (fun v Sv hv => ?_) (fun Ex Sv hx => ?_)
  · obtain ⟨hcz, rfl, hPz⟩ := hv
    have B2 := gB_up B (by rw [hcap.1]; exact hcap.2.2.1) (by rw [hcap.2.1]; exact hcap.2.2.2)
    have Z2 : gZ Y (xUp X) (yP (cd_has s k) (hasF (vw S 0) s k) (-9999001) (0) (0) (fun S' => S' = S) (fun S' => S' = S)) := ⟨Z.1, by show xCells X + 1 ≤ 1; rw [hcap.1]; decide, by show xSlots X + 6 ≤ 6; rw [hcap.2.1]; decide⟩
    exact gz_iret B2 Z2 dL_tryHas_6 ⟨by rw [tv_0 hcz], Or.inl ⟨hcz, hPz⟩⟩
  · obtain ⟨jz, hcz, hjz, hPz⟩ := hx
    have B2 := gB_up B (by rw [hcap.1]; exact hcap.2.2.1) (by rw [hcap.2.1]; exact hcap.2.2.2)
    have Z2 : gZ Y (xUp X) (yP (cd_has s k) (hasF (vw S 0) s k) (-9999001) (0) (0) (fun S' => S' = S) (fun S' => S' = S)) := ⟨Z.1, by show xCells X + 1 ≤ 1; rw [hcap.1]; decide, by show xSlots X + 6 ≤ 6; rw [hcap.2.1]; decide⟩
    rcases jz with _ | jz
    · cases hjz
      refine g_catch B2 [] ⟨0, 6, 7, 13⟩ [] tab (fun z hz => absurd hz List.not_mem_nil) (by decide) (by decide) wl_I (by decide) (fun q9 => ?_)
      show gW Y (xUp X) Sv 7 [(0, .ref (yA Y 72)), (1, .int (iI s)), (2, .int (iI k))] [.ref q9]
      refine g_astore_n (q := 8) B2 dL_tryHas_7 rfl (by decide) (L' := [(3, .ref q9), (0, .ref (yA Y 72)), (1, .int (iI s)), (2, .int (iI k))]) rfl ?_
      refine g_ldc (z := -9999001) (q := 10) B2 dL_tryHas_8 rfl w573 (by decide) ?_
      exact gz_iret B2 Z2 dL_tryHas_10 ⟨by rw [hcz]; rfl, Or.inr ⟨by rw [hcz]; decide, hPz⟩⟩
    · cases hjz

set_option maxHeartbeats 4000000 in
theorem c_L_tryCome {Y : gY} {l : Launch} {S : SS} (hst : l.stackTraces = false) (hw : wf (vw S 0)) (hnx : 0 ≤ S 75 0 ∧ S 75 0 < 14) (hct : 0 ≤ S 75 1 ∧ S 75 1 ≤ 14) (k : Int) (hk : rI k) (u : Int) (hu : rI u) : gVH Y l yL_tryCome cL_tryCome 4 [(0, 6, 7, 13), (0, 6, 11, 20), (0, 6, 15, 31)] (mX7_jewel.2.2.2.2 + 11) S [.ref (yA Y 72), .int (iI k), .int (iI u)] (yP (cd_jewel (vw S 0) k u) (S (4 * 0) 0) (-9999001) (-9999002) (-9999003) (fun S' => chP S S' (addG (vw S 0) k u)) (fun S' => S' = S)) := by
  refine gVH_of (by decide) (Nat.le_of_ble_eq_true rfl) ?_
  intro X hXl B tab hcap Z
  subst hXl
  show gW Y X S 0 [(0, .ref (yA Y 72)), (1, .int (iI k)), (2, .int (iI u))] []
  refine g_aload_n (q := 1) B dL_tryCome_0 rfl 0 rfl ?_
  refine g_iload_n (q := 2) B dL_tryCome_1 rfl 1 rfl ?_
  refine g_iload_n (q := 3) B dL_tryCome_2 rfl 2 rfl ?_
  refine g_callX (As := [.int (iI k), .int (iI u)]) (st := []) B dL_tryCome_3 (c_X7_jewel (Y := Y) (l := xL X) (S := S) hst hw hnx hct k hk u hu) eX7_jewel w622 (Nat.le_refl _) rfl rfl (Nat.le_of_ble_eq_true rfl) (by rw [hcap.1]; exact hcap.2.2.1) (by rw [hcap.2.1]; exact hcap.2.2.2) (fun v Sv hv => ?_) (fun Ex Sv hx => ?_)
  · obtain ⟨hcz, rfl, hPz⟩ := hv
    have B2 := gB_up B (by rw [hcap.1]; exact hcap.2.2.1) (by rw [hcap.2.1]; exact hcap.2.2.2)
    have Z2 : gZ Y (xUp X) (yP (cd_jewel (vw S 0) k u) (S (4 * 0) 0) (-9999001) (-9999002) (-9999003) (fun S' => chP S S' (addG (vw S 0) k u)) (fun S' => S' = S)) := ⟨Z.1, by show xCells X + 1 ≤ 1; rw [hcap.1]; decide, by show xSlots X + 6 ≤ 6; rw [hcap.2.1]; decide⟩
    exact gz_iret B2 Z2 dL_tryCome_6 ⟨by rw [tv_0 hcz], Or.inl ⟨hcz, hPz⟩⟩
  · obtain ⟨jz, hcz, hjz, hPz⟩ := hx
    have B2 := gB_up B (by rw [hcap.1]; exact hcap.2.2.1) (by rw [hcap.2.1]; exact hcap.2.2.2)
    have Z2 : gZ Y (xUp X) (yP (cd_jewel (vw S 0) k u) (S (4 * 0) 0) (-9999001) (-9999002) (-9999003) (fun S' => chP S S' (addG (vw S 0) k u)) (fun S' => S' = S)) := ⟨Z.1, by show xCells X + 1 ≤ 1; rw [hcap.1]; decide, by show xSlots X + 6 ≤ 6; rw [hcap.2.1]; decide⟩
    rcases jz with _ | _ | _ | jz
    · cases hjz
      refine g_catch B2 [] ⟨0, 6, 7, 13⟩ [⟨0, 6, 11, 20⟩, ⟨0, 6, 15, 31⟩] tab (fun z hz => absurd hz List.not_mem_nil) (by decide) (by decide) wl_I (by decide) (fun q9 => ?_)
      show gW Y (xUp X) Sv 7 [(0, .ref (yA Y 72)), (1, .int (iI k)), (2, .int (iI u))] [.ref q9]
      refine g_astore_n (q := 8) B2 dL_tryCome_7 rfl (by decide) (L' := [(3, .ref q9), (0, .ref (yA Y 72)), (1, .int (iI k)), (2, .int (iI u))]) rfl ?_
      refine g_ldc (z := -9999001) (q := 10) B2 dL_tryCome_8 rfl w573 (by decide) ?_
      exact gz_iret B2 Z2 dL_tryCome_10 ⟨by rw [hcz]; rfl, Or.inr ⟨by rw [hcz]; decide, hPz⟩⟩
    · cases hjz
      refine g_catch B2 [⟨0, 6, 7, 13⟩] ⟨0, 6, 11, 20⟩ [⟨0, 6, 15, 31⟩] tab (fun z hz => by cases List.mem_singleton.mp hz; exact ⟨by decide, eI, wl_I, by decide⟩) (by decide) (by decide) wl_A (by decide) (fun q9 => ?_)
      show gW Y (xUp X) Sv 11 [(0, .ref (yA Y 72)), (1, .int (iI k)), (2, .int (iI u))] [.ref q9]
      refine g_astore_n (q := 12) B2 dL_tryCome_11 rfl (by decide) (L' := [(3, .ref q9), (0, .ref (yA Y 72)), (1, .int (iI k)), (2, .int (iI u))]) rfl ?_
      refine g_ldc (z := -9999002) (q := 14) B2 dL_tryCome_12 rfl w279 (by decide) ?_
      exact gz_iret B2 Z2 dL_tryCome_14 ⟨by rw [hcz]; rfl, Or.inr ⟨by rw [hcz]; decide, hPz⟩⟩
    · cases hjz
      refine g_catch B2 [⟨0, 6, 7, 13⟩, ⟨0, 6, 11, 20⟩] ⟨0, 6, 15, 31⟩ [] tab (fun z hz => by rcases List.mem_cons.mp hz with rfl | hz2; exact ⟨by decide, eI, wl_I, by decide⟩; cases List.mem_singleton.mp hz2; exact ⟨by decide, eA, wl_A, by decide⟩) (by decide) (by decide) wl_S (by decide) (fun q9 => ?_)
      show gW Y (xUp X) Sv 15 [(0, .ref (yA Y 72)), (1, .int (iI k)), (2, .int (iI u))] [.ref q9]
      refine g_astore_n (q := 16) B2 dL_tryCome_15 rfl (by decide) (L' := [(3, .ref q9), (0, .ref (yA Y 72)), (1, .int (iI k)), (2, .int (iI u))]) rfl ?_
      refine g_ldc (z := -9999003) (q := 18) B2 dL_tryCome_16 rfl w280 (by decide) ?_
      exact gz_iret B2 Z2 dL_tryCome_18 ⟨by rw [hcz]; rfl, Or.inr ⟨by rw [hcz]; decide, hPz⟩⟩
    · cases hjz

set_option maxHeartbeats 4000000 in
theorem c_L_tryChange {Y : gY} {l : Launch} {S : SS} (hst : l.stackTraces = false) (hw : wf (vw S 0)) (hnx : 0 ≤ S 75 0 ∧ S 75 0 < 14) (hct : 0 ≤ S 75 1 ∧ S 75 1 ≤ 14) (i : Int) (hi : rI i) (j : Int) (hj : rI j) : gVH Y l yL_tryChange cL_tryChange 4 [(0, 6, 7, 13)] (mX7_exchange.2.2.2.2 + 11) S [.ref (yA Y 72), .int (iI i), .int (iI j)] (yP (cd_exchange (vw S 0) i j) (gapF (swapG (vw S 0) i j)) (-9999001) (0) (0) (fun S' => chP S S' (swapG (vw S 0) i j)) (fun S' => S' = S)) := by
  refine gVH_of (by decide) (Nat.le_of_ble_eq_true rfl) ?_
  intro X hXl B tab hcap Z
  subst hXl
  show gW Y X S 0 [(0, .ref (yA Y 72)), (1, .int (iI i)), (2, .int (iI j))] []
  refine g_aload_n (q := 1) B dL_tryChange_0 rfl 0 rfl ?_
  refine g_iload_n (q := 2) B dL_tryChange_1 rfl 1 rfl ?_
  refine g_iload_n (q := 3) B dL_tryChange_2 rfl 2 rfl ?_
  refine g_callX (As := [.int (iI i), .int (iI j)]) (st := []) B dL_tryChange_3 (c_X7_exchange (Y := Y) (l := xL X) (S := S) hst hw hnx hct i hi j hj) eX7_exchange w645 (Nat.le_refl _) rfl rfl (Nat.le_of_ble_eq_true rfl) (by rw [hcap.1]; exact hcap.2.2.1) (by rw [hcap.2.1]; exact hcap.2.2.2) (fun v Sv hv => ?_) (fun Ex Sv hx => ?_)
  · obtain ⟨hcz, rfl, hPz⟩ := hv
    have B2 := gB_up B (by rw [hcap.1]; exact hcap.2.2.1) (by rw [hcap.2.1]; exact hcap.2.2.2)
    have Z2 : gZ Y (xUp X) (yP (cd_exchange (vw S 0) i j) (gapF (swapG (vw S 0) i j)) (-9999001) (0) (0) (fun S' => chP S S' (swapG (vw S 0) i j)) (fun S' => S' = S)) := ⟨Z.1, by show xCells X + 1 ≤ 1; rw [hcap.1]; decide, by show xSlots X + 6 ≤ 6; rw [hcap.2.1]; decide⟩
    exact gz_iret B2 Z2 dL_tryChange_6 ⟨by rw [tv_0 hcz], Or.inl ⟨hcz, hPz⟩⟩
  · obtain ⟨jz, hcz, hjz, hPz⟩ := hx
    have B2 := gB_up B (by rw [hcap.1]; exact hcap.2.2.1) (by rw [hcap.2.1]; exact hcap.2.2.2)
    have Z2 : gZ Y (xUp X) (yP (cd_exchange (vw S 0) i j) (gapF (swapG (vw S 0) i j)) (-9999001) (0) (0) (fun S' => chP S S' (swapG (vw S 0) i j)) (fun S' => S' = S)) := ⟨Z.1, by show xCells X + 1 ≤ 1; rw [hcap.1]; decide, by show xSlots X + 6 ≤ 6; rw [hcap.2.1]; decide⟩
    rcases jz with _ | jz
    · cases hjz
      refine g_catch B2 [] ⟨0, 6, 7, 13⟩ [] tab (fun z hz => absurd hz List.not_mem_nil) (by decide) (by decide) wl_I (by decide) (fun q9 => ?_)
      show gW Y (xUp X) Sv 7 [(0, .ref (yA Y 72)), (1, .int (iI i)), (2, .int (iI j))] [.ref q9]
      refine g_astore_n (q := 8) B2 dL_tryChange_7 rfl (by decide) (L' := [(3, .ref q9), (0, .ref (yA Y 72)), (1, .int (iI i)), (2, .int (iI j))]) rfl ?_
      refine g_ldc (z := -9999001) (q := 10) B2 dL_tryChange_8 rfl w573 (by decide) ?_
      exact gz_iret B2 Z2 dL_tryChange_10 ⟨by rw [hcz]; rfl, Or.inr ⟨by rw [hcz]; decide, hPz⟩⟩
    · cases hjz

set_option maxHeartbeats 4000000 in
theorem c_L_tryBreak {Y : gY} {l : Launch} {S : SS} (hst : l.stackTraces = false) (hw : wf (vw S 0)) (hnx : 0 ≤ S 75 0 ∧ S 75 0 < 14) (hct : 0 ≤ S 75 1 ∧ S 75 1 ≤ 14) (j : Int) (hj : rI j) : gVH Y l yL_tryBreak cL_tryBreak 3 [(0, 5, 6, 13)] (mX7_breakAt.2.2.2.2 + 11) S [.ref (yA Y 72), .int (iI j)] (yP (cd_breakAt (vw S 0) j) (S (4 * 0) 1) (-9999001) (0) (0) (fun S' => chP S S' (brkG (vw S 0) j)) (fun S' => S' = S)) := by
  refine gVH_of (by decide) (Nat.le_of_ble_eq_true rfl) ?_
  intro X hXl B tab hcap Z
  subst hXl
  show gW Y X S 0 [(0, .ref (yA Y 72)), (1, .int (iI j))] []
  refine g_aload_n (q := 1) B dL_tryBreak_0 rfl 0 rfl ?_
  refine g_iload_n (q := 2) B dL_tryBreak_1 rfl 1 rfl ?_
  refine g_callX (As := [.int (iI j)]) (st := []) B dL_tryBreak_2 (c_X7_breakAt (Y := Y) (l := xL X) (S := S) hst hw hnx hct j hj) eX7_breakAt w653 (Nat.le_refl _) rfl rfl (Nat.le_of_ble_eq_true rfl) (by rw [hcap.1]; exact hcap.2.2.1) (by rw [hcap.2.1]; exact hcap.2.2.2) (fun v Sv hv => ?_) (fun Ex Sv hx => ?_)
  · obtain ⟨hcz, rfl, hPz⟩ := hv
    have B2 := gB_up B (by rw [hcap.1]; exact hcap.2.2.1) (by rw [hcap.2.1]; exact hcap.2.2.2)
    have Z2 : gZ Y (xUp X) (yP (cd_breakAt (vw S 0) j) (S (4 * 0) 1) (-9999001) (0) (0) (fun S' => chP S S' (brkG (vw S 0) j)) (fun S' => S' = S)) := ⟨Z.1, by show xCells X + 1 ≤ 1; rw [hcap.1]; decide, by show xSlots X + 6 ≤ 6; rw [hcap.2.1]; decide⟩
    exact gz_iret B2 Z2 dL_tryBreak_5 ⟨by rw [tv_0 hcz], Or.inl ⟨hcz, hPz⟩⟩
  · obtain ⟨jz, hcz, hjz, hPz⟩ := hx
    have B2 := gB_up B (by rw [hcap.1]; exact hcap.2.2.1) (by rw [hcap.2.1]; exact hcap.2.2.2)
    have Z2 : gZ Y (xUp X) (yP (cd_breakAt (vw S 0) j) (S (4 * 0) 1) (-9999001) (0) (0) (fun S' => chP S S' (brkG (vw S 0) j)) (fun S' => S' = S)) := ⟨Z.1, by show xCells X + 1 ≤ 1; rw [hcap.1]; decide, by show xSlots X + 6 ≤ 6; rw [hcap.2.1]; decide⟩
    rcases jz with _ | jz
    · cases hjz
      refine g_catch B2 [] ⟨0, 5, 6, 13⟩ [] tab (fun z hz => absurd hz List.not_mem_nil) (by decide) (by decide) wl_I (by decide) (fun q9 => ?_)
      show gW Y (xUp X) Sv 6 [(0, .ref (yA Y 72)), (1, .int (iI j))] [.ref q9]
      refine g_astore_n (q := 7) B2 dL_tryBreak_6 rfl (by decide) (L' := [(2, .ref q9), (0, .ref (yA Y 72)), (1, .int (iI j))]) rfl ?_
      refine g_ldc (z := -9999001) (q := 9) B2 dL_tryBreak_7 rfl w573 (by decide) ?_
      exact gz_iret B2 Z2 dL_tryBreak_9 ⟨by rw [hcz]; rfl, Or.inr ⟨by rw [hcz]; decide, hPz⟩⟩
    · cases hjz

set_option maxHeartbeats 4000000 in
theorem c_L_tryGive {Y : gY} {l : Launch} {S : SS} (hst : l.stackTraces = false) (hw : wf (vw S 0)) (hnx : 0 ≤ S 75 0 ∧ S 75 0 < 14) (hct : 0 ≤ S 75 1 ∧ S 75 1 ≤ 14) (r : Int) (hr : rI r) (o : Int) (ho : rI o) : gVH Y l yL_tryGive cL_tryGive 4 [(0, 6, 7, 13), (0, 6, 11, 20)] (mX7_give.2.2.2.2 + 11) S [.ref (yA Y 72), .int (iI r), .int (iI o)] (yP (cd_give (vw S 0) r o) (gapF (giveG (vw S 0) r o)) (-9999001) (-9999002) (0) (fun S' => chP S S' (giveG (vw S 0) r o)) (fun S' => S' = S)) := by
  refine gVH_of (by decide) (Nat.le_of_ble_eq_true rfl) ?_
  intro X hXl B tab hcap Z
  subst hXl
  show gW Y X S 0 [(0, .ref (yA Y 72)), (1, .int (iI r)), (2, .int (iI o))] []
  refine g_aload_n (q := 1) B dL_tryGive_0 rfl 0 rfl ?_
  refine g_iload_n (q := 2) B dL_tryGive_1 rfl 1 rfl ?_
  refine g_iload_n (q := 3) B dL_tryGive_2 rfl 2 rfl ?_
  refine g_callX (As := [.int (iI r), .int (iI o)]) (st := []) B dL_tryGive_3 (c_X7_give (Y := Y) (l := xL X) (S := S) hst hw hnx hct r hr o ho) eX7_give w661 (Nat.le_refl _) rfl rfl (Nat.le_of_ble_eq_true rfl) (by rw [hcap.1]; exact hcap.2.2.1) (by rw [hcap.2.1]; exact hcap.2.2.2) (fun v Sv hv => ?_) (fun Ex Sv hx => ?_)
  · obtain ⟨hcz, rfl, hPz⟩ := hv
    have B2 := gB_up B (by rw [hcap.1]; exact hcap.2.2.1) (by rw [hcap.2.1]; exact hcap.2.2.2)
    have Z2 : gZ Y (xUp X) (yP (cd_give (vw S 0) r o) (gapF (giveG (vw S 0) r o)) (-9999001) (-9999002) (0) (fun S' => chP S S' (giveG (vw S 0) r o)) (fun S' => S' = S)) := ⟨Z.1, by show xCells X + 1 ≤ 1; rw [hcap.1]; decide, by show xSlots X + 6 ≤ 6; rw [hcap.2.1]; decide⟩
    exact gz_iret B2 Z2 dL_tryGive_6 ⟨by rw [tv_0 hcz], Or.inl ⟨hcz, hPz⟩⟩
  · obtain ⟨jz, hcz, hjz, hPz⟩ := hx
    have B2 := gB_up B (by rw [hcap.1]; exact hcap.2.2.1) (by rw [hcap.2.1]; exact hcap.2.2.2)
    have Z2 : gZ Y (xUp X) (yP (cd_give (vw S 0) r o) (gapF (giveG (vw S 0) r o)) (-9999001) (-9999002) (0) (fun S' => chP S S' (giveG (vw S 0) r o)) (fun S' => S' = S)) := ⟨Z.1, by show xCells X + 1 ≤ 1; rw [hcap.1]; decide, by show xSlots X + 6 ≤ 6; rw [hcap.2.1]; decide⟩
    rcases jz with _ | _ | jz
    · cases hjz
      refine g_catch B2 [] ⟨0, 6, 7, 13⟩ [⟨0, 6, 11, 20⟩] tab (fun z hz => absurd hz List.not_mem_nil) (by decide) (by decide) wl_I (by decide) (fun q9 => ?_)
      show gW Y (xUp X) Sv 7 [(0, .ref (yA Y 72)), (1, .int (iI r)), (2, .int (iI o))] [.ref q9]
      refine g_astore_n (q := 8) B2 dL_tryGive_7 rfl (by decide) (L' := [(3, .ref q9), (0, .ref (yA Y 72)), (1, .int (iI r)), (2, .int (iI o))]) rfl ?_
      refine g_ldc (z := -9999001) (q := 10) B2 dL_tryGive_8 rfl w573 (by decide) ?_
      exact gz_iret B2 Z2 dL_tryGive_10 ⟨by rw [hcz]; rfl, Or.inr ⟨by rw [hcz]; decide, hPz⟩⟩
    · cases hjz
      refine g_catch B2 [⟨0, 6, 7, 13⟩] ⟨0, 6, 11, 20⟩ [] tab (fun z hz => by cases List.mem_singleton.mp hz; exact ⟨by decide, eI, wl_I, by decide⟩) (by decide) (by decide) wl_A (by decide) (fun q9 => ?_)
      show gW Y (xUp X) Sv 11 [(0, .ref (yA Y 72)), (1, .int (iI r)), (2, .int (iI o))] [.ref q9]
      refine g_astore_n (q := 12) B2 dL_tryGive_11 rfl (by decide) (L' := [(3, .ref q9), (0, .ref (yA Y 72)), (1, .int (iI r)), (2, .int (iI o))]) rfl ?_
      refine g_ldc (z := -9999002) (q := 14) B2 dL_tryGive_12 rfl w279 (by decide) ?_
      exact gz_iret B2 Z2 dL_tryGive_14 ⟨by rw [hcz]; rfl, Or.inr ⟨by rw [hcz]; decide, hPz⟩⟩
    · cases hjz

set_option maxHeartbeats 4000000 in
theorem c_L_tryTake {Y : gY} {l : Launch} {S : SS} (hst : l.stackTraces = false) (hw : wf (vw S 0)) (hnx : 0 ≤ S 75 0 ∧ S 75 0 < 14) (hct : 0 ≤ S 75 1 ∧ S 75 1 ≤ 14) (r : Int) (hr : rI r) : gVH Y l yL_tryTake cL_tryTake 3 [(0, 5, 6, 13)] (mX7_take.2.2.2.2 + 11) S [.ref (yA Y 72), .int (iI r)] (yP (cd_take (vw S 0) r) (whyF (vw S 0) r) (-9999001) (0) (0) (fun S' => chP S S' (takeM (vw S 0) r)) (fun S' => S' = S)) := by
  refine gVH_of (by decide) (Nat.le_of_ble_eq_true rfl) ?_
  intro X hXl B tab hcap Z
  subst hXl
  show gW Y X S 0 [(0, .ref (yA Y 72)), (1, .int (iI r))] []
  refine g_aload_n (q := 1) B dL_tryTake_0 rfl 0 rfl ?_
  refine g_iload_n (q := 2) B dL_tryTake_1 rfl 1 rfl ?_
  refine g_callX (As := [.int (iI r)]) (st := []) B dL_tryTake_2 (c_X7_take (Y := Y) (l := xL X) (S := S) hst hw hnx hct r hr) eX7_take w671 (Nat.le_refl _) rfl rfl (Nat.le_of_ble_eq_true rfl) (by rw [hcap.1]; exact hcap.2.2.1) (by rw [hcap.2.1]; exact hcap.2.2.2) (fun v Sv hv => ?_) (fun Ex Sv hx => ?_)
  · obtain ⟨hcz, rfl, hPz⟩ := hv
    have B2 := gB_up B (by rw [hcap.1]; exact hcap.2.2.1) (by rw [hcap.2.1]; exact hcap.2.2.2)
    have Z2 : gZ Y (xUp X) (yP (cd_take (vw S 0) r) (whyF (vw S 0) r) (-9999001) (0) (0) (fun S' => chP S S' (takeM (vw S 0) r)) (fun S' => S' = S)) := ⟨Z.1, by show xCells X + 1 ≤ 1; rw [hcap.1]; decide, by show xSlots X + 6 ≤ 6; rw [hcap.2.1]; decide⟩
    exact gz_iret B2 Z2 dL_tryTake_5 ⟨by rw [tv_0 hcz], Or.inl ⟨hcz, hPz⟩⟩
  · obtain ⟨jz, hcz, hjz, hPz⟩ := hx
    have B2 := gB_up B (by rw [hcap.1]; exact hcap.2.2.1) (by rw [hcap.2.1]; exact hcap.2.2.2)
    have Z2 : gZ Y (xUp X) (yP (cd_take (vw S 0) r) (whyF (vw S 0) r) (-9999001) (0) (0) (fun S' => chP S S' (takeM (vw S 0) r)) (fun S' => S' = S)) := ⟨Z.1, by show xCells X + 1 ≤ 1; rw [hcap.1]; decide, by show xSlots X + 6 ≤ 6; rw [hcap.2.1]; decide⟩
    rcases jz with _ | jz
    · cases hjz
      refine g_catch B2 [] ⟨0, 5, 6, 13⟩ [] tab (fun z hz => absurd hz List.not_mem_nil) (by decide) (by decide) wl_I (by decide) (fun q9 => ?_)
      show gW Y (xUp X) Sv 6 [(0, .ref (yA Y 72)), (1, .int (iI r))] [.ref q9]
      refine g_astore_n (q := 7) B2 dL_tryTake_6 rfl (by decide) (L' := [(2, .ref q9), (0, .ref (yA Y 72)), (1, .int (iI r))]) rfl ?_
      refine g_ldc (z := -9999001) (q := 9) B2 dL_tryTake_7 rfl w573 (by decide) ?_
      exact gz_iret B2 Z2 dL_tryTake_9 ⟨by rw [hcz]; rfl, Or.inr ⟨by rw [hcz]; decide, hPz⟩⟩
    · cases hjz

set_option maxHeartbeats 4000000 in
theorem c_L_tryDeal {Y : gY} {l : Launch} {S : SS} (hst : l.stackTraces = false) (hw : wf (vw S 0)) (hnx : 0 ≤ S 75 0 ∧ S 75 0 < 14) (hct : 0 ≤ S 75 1 ∧ S 75 1 ≤ 14) (s : Int) (hs : rI s) : gVH Y l yL_tryDeal cL_tryDeal 3 [(0, 5, 6, 13)] (mX7_deal.2.2.2.2 + 11) S [.ref (yA Y 72), .int (iI s)] (yP (cd_01 s) (gapF (dealG (vw S 0) s)) (-9999001) (0) (0) (fun S' => chP S S' (dealG (vw S 0) s)) (fun S' => S' = S)) := by
  refine gVH_of (by decide) (Nat.le_of_ble_eq_true rfl) ?_
  intro X hXl B tab hcap Z
  subst hXl
  show gW Y X S 0 [(0, .ref (yA Y 72)), (1, .int (iI s))] []
  refine g_aload_n (q := 1) B dL_tryDeal_0 rfl 0 rfl ?_
  refine g_iload_n (q := 2) B dL_tryDeal_1 rfl 1 rfl ?_
  refine g_callX (As := [.int (iI s)]) (st := []) B dL_tryDeal_2 (c_X7_deal (Y := Y) (l := xL X) (S := S) hst hw hnx hct s hs) eX7_deal w680 (Nat.le_refl _) rfl rfl (Nat.le_of_ble_eq_true rfl) (by rw [hcap.1]; exact hcap.2.2.1) (by rw [hcap.2.1]; exact hcap.2.2.2) (fun v Sv hv => ?_) (fun Ex Sv hx => ?_)
  · obtain ⟨hcz, rfl, hPz⟩ := hv
    have B2 := gB_up B (by rw [hcap.1]; exact hcap.2.2.1) (by rw [hcap.2.1]; exact hcap.2.2.2)
    have Z2 : gZ Y (xUp X) (yP (cd_01 s) (gapF (dealG (vw S 0) s)) (-9999001) (0) (0) (fun S' => chP S S' (dealG (vw S 0) s)) (fun S' => S' = S)) := ⟨Z.1, by show xCells X + 1 ≤ 1; rw [hcap.1]; decide, by show xSlots X + 6 ≤ 6; rw [hcap.2.1]; decide⟩
    exact gz_iret B2 Z2 dL_tryDeal_5 ⟨by rw [tv_0 hcz], Or.inl ⟨hcz, hPz⟩⟩
  · obtain ⟨jz, hcz, hjz, hPz⟩ := hx
    have B2 := gB_up B (by rw [hcap.1]; exact hcap.2.2.1) (by rw [hcap.2.1]; exact hcap.2.2.2)
    have Z2 : gZ Y (xUp X) (yP (cd_01 s) (gapF (dealG (vw S 0) s)) (-9999001) (0) (0) (fun S' => chP S S' (dealG (vw S 0) s)) (fun S' => S' = S)) := ⟨Z.1, by show xCells X + 1 ≤ 1; rw [hcap.1]; decide, by show xSlots X + 6 ≤ 6; rw [hcap.2.1]; decide⟩
    rcases jz with _ | jz
    · cases hjz
      refine g_catch B2 [] ⟨0, 5, 6, 13⟩ [] tab (fun z hz => absurd hz List.not_mem_nil) (by decide) (by decide) wl_I (by decide) (fun q9 => ?_)
      show gW Y (xUp X) Sv 6 [(0, .ref (yA Y 72)), (1, .int (iI s))] [.ref q9]
      refine g_astore_n (q := 7) B2 dL_tryDeal_6 rfl (by decide) (L' := [(2, .ref q9), (0, .ref (yA Y 72)), (1, .int (iI s))]) rfl ?_
      refine g_ldc (z := -9999001) (q := 9) B2 dL_tryDeal_7 rfl w573 (by decide) ?_
      exact gz_iret B2 Z2 dL_tryDeal_9 ⟨by rw [hcz]; rfl, Or.inr ⟨by rw [hcz]; decide, hPz⟩⟩
    · cases hjz

set_option maxHeartbeats 4000000 in
theorem c_L_tryDivide {Y : gY} {l : Launch} {S : SS} (hst : l.stackTraces = false) (hw : wf (vw S 0)) (hnx : 0 ≤ S 75 0 ∧ S 75 0 < 14) (hct : 0 ≤ S 75 1 ∧ S 75 1 ≤ 14) (h780 : S 78 0 = 0) : gVH Y l yL_tryDivide cL_tryDivide 2 [(0, 4, 5, 31)] (mX7_divide.2.2.2.2 + 11) S [.ref (yA Y 72)] (yP (cd_dv (fewF (vw S 0))) (fewF (vw S 0)) (-9999003) (0) (0) (fun S' => dvP S S') (fun S' => fdv S S')) := by
  refine gVH_of (by decide) (Nat.le_of_ble_eq_true rfl) ?_
  intro X hXl B tab hcap Z
  subst hXl
  show gW Y X S 0 [(0, .ref (yA Y 72))] []
  refine g_aload_n (q := 1) B dL_tryDivide_0 rfl 0 rfl ?_
  refine g_callX (As := []) (st := []) B dL_tryDivide_1 (c_X7_divide (Y := Y) (l := xL X) (S := S) hst hw hnx hct h780) eX7_divide w689 (Nat.le_refl _) rfl rfl (Nat.le_of_ble_eq_true rfl) (by rw [hcap.1]; exact hcap.2.2.1) (by rw [hcap.2.1]; exact hcap.2.2.2) (fun v Sv hv => ?_) (fun Ex Sv hx => ?_)
  · obtain ⟨hcz, rfl, hPz⟩ := hv
    have B2 := gB_up B (by rw [hcap.1]; exact hcap.2.2.1) (by rw [hcap.2.1]; exact hcap.2.2.2)
    have Z2 : gZ Y (xUp X) (yP (cd_dv (fewF (vw S 0))) (fewF (vw S 0)) (-9999003) (0) (0) (fun S' => dvP S S') (fun S' => fdv S S')) := ⟨Z.1, by show xCells X + 1 ≤ 1; rw [hcap.1]; decide, by show xSlots X + 6 ≤ 6; rw [hcap.2.1]; decide⟩
    exact gz_iret B2 Z2 dL_tryDivide_4 ⟨by rw [tv_0 hcz], Or.inl ⟨hcz, hPz⟩⟩
  · obtain ⟨jz, hcz, hjz, hPz⟩ := hx
    have B2 := gB_up B (by rw [hcap.1]; exact hcap.2.2.1) (by rw [hcap.2.1]; exact hcap.2.2.2)
    have Z2 : gZ Y (xUp X) (yP (cd_dv (fewF (vw S 0))) (fewF (vw S 0)) (-9999003) (0) (0) (fun S' => dvP S S') (fun S' => fdv S S')) := ⟨Z.1, by show xCells X + 1 ≤ 1; rw [hcap.1]; decide, by show xSlots X + 6 ≤ 6; rw [hcap.2.1]; decide⟩
    rcases jz with _ | jz
    · cases hjz
      refine g_catch B2 [] ⟨0, 4, 5, 31⟩ [] tab (fun z hz => absurd hz List.not_mem_nil) (by decide) (by decide) wl_S (by decide) (fun q9 => ?_)
      show gW Y (xUp X) Sv 5 [(0, .ref (yA Y 72))] [.ref q9]
      refine g_astore_n (q := 6) B2 dL_tryDivide_5 rfl (by decide) (L' := [(1, .ref q9), (0, .ref (yA Y 72))]) rfl ?_
      refine g_ldc (z := -9999003) (q := 8) B2 dL_tryDivide_6 rfl w280 (by decide) ?_
      exact gz_iret B2 Z2 dL_tryDivide_8 ⟨by rw [hcz]; rfl, Or.inr ⟨by rw [hcz]; decide, hPz⟩⟩
    · cases hjz

set_option maxHeartbeats 4000000 in
theorem c_L_tryLay {Y : gY} {l : Launch} {S : SS} (hst : l.stackTraces = false) (hw : wf (vw S 0)) (hnx : 0 ≤ S 75 0 ∧ S 75 0 < 14) (hct : 0 ≤ S 75 1 ∧ S 75 1 ≤ 14) (v : Int) (hv : rI v) : gVH Y l yL_tryLay cL_tryLay 3 [(0, 5, 6, 20)] (mX7_set.2.2.2.2 + 11) S [.ref (yA Y 72), .int (iI v)] (yP (cd_01 v) (S (4 * 0) 4) (-9999002) (0) (0) (fun S' => chP S S' (setG (vw S 0) v)) (fun S' => S' = S)) := by
  refine gVH_of (by decide) (Nat.le_of_ble_eq_true rfl) ?_
  intro X hXl B tab hcap Z
  subst hXl
  show gW Y X S 0 [(0, .ref (yA Y 72)), (1, .int (iI v))] []
  refine g_aload_n (q := 1) B dL_tryLay_0 rfl 0 rfl ?_
  refine g_iload_n (q := 2) B dL_tryLay_1 rfl 1 rfl ?_
  refine g_callX (As := [.int (iI v)]) (st := []) B dL_tryLay_2 (c_X7_set (Y := Y) (l := xL X) (S := S) hst hw hnx hct v hv) eX7_set w742 (Nat.le_refl _) rfl rfl (Nat.le_of_ble_eq_true rfl) (by rw [hcap.1]; exact hcap.2.2.1) (by rw [hcap.2.1]; exact hcap.2.2.2) (fun v Sv hv => ?_) (fun Ex Sv hx => ?_)
  · obtain ⟨hcz, rfl, hPz⟩ := hv
    have B2 := gB_up B (by rw [hcap.1]; exact hcap.2.2.1) (by rw [hcap.2.1]; exact hcap.2.2.2)
    have Z2 : gZ Y (xUp X) (yP (cd_01 v) (S (4 * 0) 4) (-9999002) (0) (0) (fun S' => chP S S' (setG (vw S 0) v)) (fun S' => S' = S)) := ⟨Z.1, by show xCells X + 1 ≤ 1; rw [hcap.1]; decide, by show xSlots X + 6 ≤ 6; rw [hcap.2.1]; decide⟩
    exact gz_iret B2 Z2 dL_tryLay_5 ⟨by rw [tv_0 hcz], Or.inl ⟨hcz, hPz⟩⟩
  · obtain ⟨jz, hcz, hjz, hPz⟩ := hx
    have B2 := gB_up B (by rw [hcap.1]; exact hcap.2.2.1) (by rw [hcap.2.1]; exact hcap.2.2.2)
    have Z2 : gZ Y (xUp X) (yP (cd_01 v) (S (4 * 0) 4) (-9999002) (0) (0) (fun S' => chP S S' (setG (vw S 0) v)) (fun S' => S' = S)) := ⟨Z.1, by show xCells X + 1 ≤ 1; rw [hcap.1]; decide, by show xSlots X + 6 ≤ 6; rw [hcap.2.1]; decide⟩
    rcases jz with _ | jz
    · cases hjz
      refine g_catch B2 [] ⟨0, 5, 6, 20⟩ [] tab (fun z hz => absurd hz List.not_mem_nil) (by decide) (by decide) wl_A (by decide) (fun q9 => ?_)
      show gW Y (xUp X) Sv 6 [(0, .ref (yA Y 72)), (1, .int (iI v))] [.ref q9]
      refine g_astore_n (q := 7) B2 dL_tryLay_6 rfl (by decide) (L' := [(2, .ref q9), (0, .ref (yA Y 72)), (1, .int (iI v))]) rfl ?_
      refine g_ldc (z := -9999002) (q := 9) B2 dL_tryLay_7 rfl w279 (by decide) ?_
      exact gz_iret B2 Z2 dL_tryLay_9 ⟨by rw [hcz]; rfl, Or.inr ⟨by rw [hcz]; decide, hPz⟩⟩
    · cases hjz

set_option maxHeartbeats 4000000 in
theorem c_L_tryUndo {Y : gY} {l : Launch} {S : SS} (hst : l.stackTraces = false) (hnx : 0 ≤ S 75 0 ∧ S 75 0 < 14) (hct : 0 ≤ S 75 1 ∧ S 75 1 ≤ 14) : gVH Y l yL_tryUndo cL_tryUndo 2 [(0, 4, 5, 31)] (mX7_undo.2.2.2.2 + 11) S [.ref (yA Y 72)] (yP (cd_undo (S 75 1)) (S 75 1 - 1) (-9999003) (0) (0) (fun S' => tbP S S') (fun S' => S' = S)) := by
  refine gVH_of (by decide) (Nat.le_of_ble_eq_true rfl) ?_
  intro X hXl B tab hcap Z
  subst hXl
  show gW Y X S 0 [(0, .ref (yA Y 72))] []
  refine g_aload_n (q := 1) B dL_tryUndo_0 rfl 0 rfl ?_
  refine g_callX (As := []) (st := []) B dL_tryUndo_1 (c_X7_undo (Y := Y) (l := xL X) (S := S) hst hnx hct) eX7_undo w752 (Nat.le_refl _) rfl rfl (Nat.le_of_ble_eq_true rfl) (by rw [hcap.1]; exact hcap.2.2.1) (by rw [hcap.2.1]; exact hcap.2.2.2) (fun v Sv hv => ?_) (fun Ex Sv hx => ?_)
  · obtain ⟨hcz, rfl, hPz⟩ := hv
    have B2 := gB_up B (by rw [hcap.1]; exact hcap.2.2.1) (by rw [hcap.2.1]; exact hcap.2.2.2)
    have Z2 : gZ Y (xUp X) (yP (cd_undo (S 75 1)) (S 75 1 - 1) (-9999003) (0) (0) (fun S' => tbP S S') (fun S' => S' = S)) := ⟨Z.1, by show xCells X + 1 ≤ 1; rw [hcap.1]; decide, by show xSlots X + 6 ≤ 6; rw [hcap.2.1]; decide⟩
    exact gz_iret B2 Z2 dL_tryUndo_4 ⟨by rw [tv_0 hcz], Or.inl ⟨hcz, hPz⟩⟩
  · obtain ⟨jz, hcz, hjz, hPz⟩ := hx
    have B2 := gB_up B (by rw [hcap.1]; exact hcap.2.2.1) (by rw [hcap.2.1]; exact hcap.2.2.2)
    have Z2 : gZ Y (xUp X) (yP (cd_undo (S 75 1)) (S 75 1 - 1) (-9999003) (0) (0) (fun S' => tbP S S') (fun S' => S' = S)) := ⟨Z.1, by show xCells X + 1 ≤ 1; rw [hcap.1]; decide, by show xSlots X + 6 ≤ 6; rw [hcap.2.1]; decide⟩
    rcases jz with _ | jz
    · cases hjz
      refine g_catch B2 [] ⟨0, 4, 5, 31⟩ [] tab (fun z hz => absurd hz List.not_mem_nil) (by decide) (by decide) wl_S (by decide) (fun q9 => ?_)
      show gW Y (xUp X) Sv 5 [(0, .ref (yA Y 72))] [.ref q9]
      refine g_astore_n (q := 6) B2 dL_tryUndo_5 rfl (by decide) (L' := [(1, .ref q9), (0, .ref (yA Y 72))]) rfl ?_
      refine g_ldc (z := -9999003) (q := 8) B2 dL_tryUndo_6 rfl w280 (by decide) ?_
      exact gz_iret B2 Z2 dL_tryUndo_8 ⟨by rw [hcz]; rfl, Or.inr ⟨by rw [hcz]; decide, hPz⟩⟩
    · cases hjz

set_option maxHeartbeats 4000000 in
theorem c_L_tryFewest {Y : gY} {l : Launch} {S : SS} (hst : l.stackTraces = false) (hw : wf (vw S 0)) (h780 : S 78 0 = 0) (u : Int) (hu : rI u) : gVH Y l yL_tryFewest cL_tryFewest 3 [(0, 5, 6, 20)] (mX7_fewest.2.2.2.2 + 11) S [.ref (yA Y 72), .int (iI u)] (yP (cd_01 u) (fewF (vw S 0)) (-9999002) (0) (0) (fun S' => fdv S S') (fun S' => S' = S)) := by
  refine gVH_of (by decide) (Nat.le_of_ble_eq_true rfl) ?_
  intro X hXl B tab hcap Z
  subst hXl
  show gW Y X S 0 [(0, .ref (yA Y 72)), (1, .int (iI u))] []
  refine g_aload_n (q := 1) B dL_tryFewest_0 rfl 0 rfl ?_
  refine g_iload_n (q := 2) B dL_tryFewest_1 rfl 1 rfl ?_
  refine g_callX (As := [.int (iI u)]) (st := []) B dL_tryFewest_2 (c_X7_fewest (Y := Y) (l := xL X) (S := S) hst hw h780 u hu) eX7_fewest w764 (Nat.le_refl _) rfl rfl (Nat.le_of_ble_eq_true rfl) (by rw [hcap.1]; exact hcap.2.2.1) (by rw [hcap.2.1]; exact hcap.2.2.2) (fun v Sv hv => ?_) (fun Ex Sv hx => ?_)
  · obtain ⟨hcz, rfl, hPz⟩ := hv
    have B2 := gB_up B (by rw [hcap.1]; exact hcap.2.2.1) (by rw [hcap.2.1]; exact hcap.2.2.2)
    have Z2 : gZ Y (xUp X) (yP (cd_01 u) (fewF (vw S 0)) (-9999002) (0) (0) (fun S' => fdv S S') (fun S' => S' = S)) := ⟨Z.1, by show xCells X + 1 ≤ 1; rw [hcap.1]; decide, by show xSlots X + 6 ≤ 6; rw [hcap.2.1]; decide⟩
    exact gz_iret B2 Z2 dL_tryFewest_5 ⟨by rw [tv_0 hcz], Or.inl ⟨hcz, hPz⟩⟩
  · obtain ⟨jz, hcz, hjz, hPz⟩ := hx
    have B2 := gB_up B (by rw [hcap.1]; exact hcap.2.2.1) (by rw [hcap.2.1]; exact hcap.2.2.2)
    have Z2 : gZ Y (xUp X) (yP (cd_01 u) (fewF (vw S 0)) (-9999002) (0) (0) (fun S' => fdv S S') (fun S' => S' = S)) := ⟨Z.1, by show xCells X + 1 ≤ 1; rw [hcap.1]; decide, by show xSlots X + 6 ≤ 6; rw [hcap.2.1]; decide⟩
    rcases jz with _ | jz
    · cases hjz
      refine g_catch B2 [] ⟨0, 5, 6, 20⟩ [] tab (fun z hz => absurd hz List.not_mem_nil) (by decide) (by decide) wl_A (by decide) (fun q9 => ?_)
      show gW Y (xUp X) Sv 6 [(0, .ref (yA Y 72)), (1, .int (iI u))] [.ref q9]
      refine g_astore_n (q := 7) B2 dL_tryFewest_6 rfl (by decide) (L' := [(2, .ref q9), (0, .ref (yA Y 72)), (1, .int (iI u))]) rfl ?_
      refine g_ldc (z := -9999002) (q := 9) B2 dL_tryFewest_7 rfl w279 (by decide) ?_
      exact gz_iret B2 Z2 dL_tryFewest_9 ⟨by rw [hcz]; rfl, Or.inr ⟨by rw [hcz]; decide, hPz⟩⟩
    · cases hjz

set_option maxHeartbeats 4000000 in
theorem c_L_tryDivided {Y : gY} {l : Launch} {S : SS} (hst : l.stackTraces = false) (hw : wf (vw S 0)) (h780 : S 78 0 = 0) (k : Int) (hk : rI k) : gVH Y l yL_tryDivided cL_tryDivided 3 [(0, 5, 6, 20)] (mX7_divided.2.2.2.2 + 11) S [.ref (yA Y 72), .int (iI k)] (yP (cd_m1 k) (divF (vw S 0) k) (-9999002) (0) (0) (fun S' => fdv S S') (fun S' => S' = S)) := by
  refine gVH_of (by decide) (Nat.le_of_ble_eq_true rfl) ?_
  intro X hXl B tab hcap Z
  subst hXl
  show gW Y X S 0 [(0, .ref (yA Y 72)), (1, .int (iI k))] []
  refine g_aload_n (q := 1) B dL_tryDivided_0 rfl 0 rfl ?_
  refine g_iload_n (q := 2) B dL_tryDivided_1 rfl 1 rfl ?_
  refine g_callX (As := [.int (iI k)]) (st := []) B dL_tryDivided_2 (c_X7_divided (Y := Y) (l := xL X) (S := S) hst hw h780 k hk) eX7_divided w782 (Nat.le_refl _) rfl rfl (Nat.le_of_ble_eq_true rfl) (by rw [hcap.1]; exact hcap.2.2.1) (by rw [hcap.2.1]; exact hcap.2.2.2) (fun v Sv hv => ?_) (fun Ex Sv hx => ?_)
  · obtain ⟨hcz, rfl, hPz⟩ := hv
    have B2 := gB_up B (by rw [hcap.1]; exact hcap.2.2.1) (by rw [hcap.2.1]; exact hcap.2.2.2)
    have Z2 : gZ Y (xUp X) (yP (cd_m1 k) (divF (vw S 0) k) (-9999002) (0) (0) (fun S' => fdv S S') (fun S' => S' = S)) := ⟨Z.1, by show xCells X + 1 ≤ 1; rw [hcap.1]; decide, by show xSlots X + 6 ≤ 6; rw [hcap.2.1]; decide⟩
    exact gz_iret B2 Z2 dL_tryDivided_5 ⟨by rw [tv_0 hcz], Or.inl ⟨hcz, hPz⟩⟩
  · obtain ⟨jz, hcz, hjz, hPz⟩ := hx
    have B2 := gB_up B (by rw [hcap.1]; exact hcap.2.2.1) (by rw [hcap.2.1]; exact hcap.2.2.2)
    have Z2 : gZ Y (xUp X) (yP (cd_m1 k) (divF (vw S 0) k) (-9999002) (0) (0) (fun S' => fdv S S') (fun S' => S' = S)) := ⟨Z.1, by show xCells X + 1 ≤ 1; rw [hcap.1]; decide, by show xSlots X + 6 ≤ 6; rw [hcap.2.1]; decide⟩
    rcases jz with _ | jz
    · cases hjz
      refine g_catch B2 [] ⟨0, 5, 6, 20⟩ [] tab (fun z hz => absurd hz List.not_mem_nil) (by decide) (by decide) wl_A (by decide) (fun q9 => ?_)
      show gW Y (xUp X) Sv 6 [(0, .ref (yA Y 72)), (1, .int (iI k))] [.ref q9]
      refine g_astore_n (q := 7) B2 dL_tryDivided_6 rfl (by decide) (L' := [(2, .ref q9), (0, .ref (yA Y 72)), (1, .int (iI k))]) rfl ?_
      refine g_ldc (z := -9999002) (q := 9) B2 dL_tryDivided_7 rfl w279 (by decide) ?_
      exact gz_iret B2 Z2 dL_tryDivided_9 ⟨by rw [hcz]; rfl, Or.inr ⟨by rw [hcz]; decide, hPz⟩⟩
    · cases hjz

set_option maxHeartbeats 4000000 in
theorem c_L_tryLeast {Y : gY} {l : Launch} {S : SS} (hst : l.stackTraces = false) (hw : wf (vw S 0)) (h780 : S 78 0 = 0) (m : Int) (hm : rI m) : gVH Y l yL_tryLeast cL_tryLeast 3 [(0, 5, 6, 20)] (mX7_leastGap.2.2.2.2 + 11) S [.ref (yA Y 72), .int (iI m)] (yP (cd_04 m) (lgF (vw S 0) m.toNat) (-9999002) (0) (0) (fun S' => fdv S S') (fun S' => S' = S)) := by
  refine gVH_of (by decide) (Nat.le_of_ble_eq_true rfl) ?_
  intro X hXl B tab hcap Z
  subst hXl
  show gW Y X S 0 [(0, .ref (yA Y 72)), (1, .int (iI m))] []
  refine g_aload_n (q := 1) B dL_tryLeast_0 rfl 0 rfl ?_
  refine g_iload_n (q := 2) B dL_tryLeast_1 rfl 1 rfl ?_
  refine g_callX (As := [.int (iI m)]) (st := []) B dL_tryLeast_2 (c_X7_leastGap (Y := Y) (l := xL X) (S := S) hst hw h780 m hm) eX7_leastGap w790 (Nat.le_refl _) rfl rfl (Nat.le_of_ble_eq_true rfl) (by rw [hcap.1]; exact hcap.2.2.1) (by rw [hcap.2.1]; exact hcap.2.2.2) (fun v Sv hv => ?_) (fun Ex Sv hx => ?_)
  · obtain ⟨hcz, rfl, hPz⟩ := hv
    have B2 := gB_up B (by rw [hcap.1]; exact hcap.2.2.1) (by rw [hcap.2.1]; exact hcap.2.2.2)
    have Z2 : gZ Y (xUp X) (yP (cd_04 m) (lgF (vw S 0) m.toNat) (-9999002) (0) (0) (fun S' => fdv S S') (fun S' => S' = S)) := ⟨Z.1, by show xCells X + 1 ≤ 1; rw [hcap.1]; decide, by show xSlots X + 6 ≤ 6; rw [hcap.2.1]; decide⟩
    exact gz_iret B2 Z2 dL_tryLeast_5 ⟨by rw [tv_0 hcz], Or.inl ⟨hcz, hPz⟩⟩
  · obtain ⟨jz, hcz, hjz, hPz⟩ := hx
    have B2 := gB_up B (by rw [hcap.1]; exact hcap.2.2.1) (by rw [hcap.2.1]; exact hcap.2.2.2)
    have Z2 : gZ Y (xUp X) (yP (cd_04 m) (lgF (vw S 0) m.toNat) (-9999002) (0) (0) (fun S' => fdv S S') (fun S' => S' = S)) := ⟨Z.1, by show xCells X + 1 ≤ 1; rw [hcap.1]; decide, by show xSlots X + 6 ≤ 6; rw [hcap.2.1]; decide⟩
    rcases jz with _ | jz
    · cases hjz
      refine g_catch B2 [] ⟨0, 5, 6, 20⟩ [] tab (fun z hz => absurd hz List.not_mem_nil) (by decide) (by decide) wl_A (by decide) (fun q9 => ?_)
      show gW Y (xUp X) Sv 6 [(0, .ref (yA Y 72)), (1, .int (iI m))] [.ref q9]
      refine g_astore_n (q := 7) B2 dL_tryLeast_6 rfl (by decide) (L' := [(2, .ref q9), (0, .ref (yA Y 72)), (1, .int (iI m))]) rfl ?_
      refine g_ldc (z := -9999002) (q := 9) B2 dL_tryLeast_7 rfl w279 (by decide) ?_
      exact gz_iret B2 Z2 dL_tryLeast_9 ⟨by rw [hcz]; rfl, Or.inr ⟨by rw [hcz]; decide, hPz⟩⟩
    · cases hjz

set_option maxHeartbeats 4000000 in
theorem c_L_tryIf {Y : gY} {l : Launch} {S : SS} (hst : l.stackTraces = false) (hw : wf (vw S 0)) (r : Int) (hr : rI r) (o : Int) (ho : rI o) : gVH Y l yL_tryIf cL_tryIf 4 [(0, 6, 7, 13), (0, 6, 11, 20)] (mX7_ifGiven.2.2.2.2 + 11) S [.ref (yA Y 72), .int (iI r), .int (iI o)] (yP (cd_give (vw S 0) r o) (gapF (giveG (vw S 0) r o)) (-9999001) (-9999002) (0) (fun S' => fr S S' 1) (fun S' => S' = S)) := by
  refine gVH_of (by decide) (Nat.le_of_ble_eq_true rfl) ?_
  intro X hXl B tab hcap Z
  subst hXl
  show gW Y X S 0 [(0, .ref (yA Y 72)), (1, .int (iI r)), (2, .int (iI o))] []
  refine g_aload_n (q := 1) B dL_tryIf_0 rfl 0 rfl ?_
  refine g_iload_n (q := 2) B dL_tryIf_1 rfl 1 rfl ?_
  refine g_iload_n (q := 3) B dL_tryIf_2 rfl 2 rfl ?_
  refine g_callX (As := [.int (iI r), .int (iI o)]) (st := []) B dL_tryIf_3 (c_X7_ifGiven (Y := Y) (l := xL X) (S := S) hst hw r hr o ho) eX7_ifGiven w811 (Nat.le_refl _) rfl rfl (Nat.le_of_ble_eq_true rfl) (by rw [hcap.1]; exact hcap.2.2.1) (by rw [hcap.2.1]; exact hcap.2.2.2) (fun v Sv hv => ?_) (fun Ex Sv hx => ?_)
  · obtain ⟨hcz, rfl, hPz⟩ := hv
    have B2 := gB_up B (by rw [hcap.1]; exact hcap.2.2.1) (by rw [hcap.2.1]; exact hcap.2.2.2)
    have Z2 : gZ Y (xUp X) (yP (cd_give (vw S 0) r o) (gapF (giveG (vw S 0) r o)) (-9999001) (-9999002) (0) (fun S' => fr S S' 1) (fun S' => S' = S)) := ⟨Z.1, by show xCells X + 1 ≤ 1; rw [hcap.1]; decide, by show xSlots X + 6 ≤ 6; rw [hcap.2.1]; decide⟩
    exact gz_iret B2 Z2 dL_tryIf_6 ⟨by rw [tv_0 hcz], Or.inl ⟨hcz, hPz⟩⟩
  · obtain ⟨jz, hcz, hjz, hPz⟩ := hx
    have B2 := gB_up B (by rw [hcap.1]; exact hcap.2.2.1) (by rw [hcap.2.1]; exact hcap.2.2.2)
    have Z2 : gZ Y (xUp X) (yP (cd_give (vw S 0) r o) (gapF (giveG (vw S 0) r o)) (-9999001) (-9999002) (0) (fun S' => fr S S' 1) (fun S' => S' = S)) := ⟨Z.1, by show xCells X + 1 ≤ 1; rw [hcap.1]; decide, by show xSlots X + 6 ≤ 6; rw [hcap.2.1]; decide⟩
    rcases jz with _ | _ | jz
    · cases hjz
      refine g_catch B2 [] ⟨0, 6, 7, 13⟩ [⟨0, 6, 11, 20⟩] tab (fun z hz => absurd hz List.not_mem_nil) (by decide) (by decide) wl_I (by decide) (fun q9 => ?_)
      show gW Y (xUp X) Sv 7 [(0, .ref (yA Y 72)), (1, .int (iI r)), (2, .int (iI o))] [.ref q9]
      refine g_astore_n (q := 8) B2 dL_tryIf_7 rfl (by decide) (L' := [(3, .ref q9), (0, .ref (yA Y 72)), (1, .int (iI r)), (2, .int (iI o))]) rfl ?_
      refine g_ldc (z := -9999001) (q := 10) B2 dL_tryIf_8 rfl w573 (by decide) ?_
      exact gz_iret B2 Z2 dL_tryIf_10 ⟨by rw [hcz]; rfl, Or.inr ⟨by rw [hcz]; decide, hPz⟩⟩
    · cases hjz
      refine g_catch B2 [⟨0, 6, 7, 13⟩] ⟨0, 6, 11, 20⟩ [] tab (fun z hz => by cases List.mem_singleton.mp hz; exact ⟨by decide, eI, wl_I, by decide⟩) (by decide) (by decide) wl_A (by decide) (fun q9 => ?_)
      show gW Y (xUp X) Sv 11 [(0, .ref (yA Y 72)), (1, .int (iI r)), (2, .int (iI o))] [.ref q9]
      refine g_astore_n (q := 12) B2 dL_tryIf_11 rfl (by decide) (L' := [(3, .ref q9), (0, .ref (yA Y 72)), (1, .int (iI r)), (2, .int (iI o))]) rfl ?_
      refine g_ldc (z := -9999002) (q := 14) B2 dL_tryIf_12 rfl w279 (by decide) ?_
      exact gz_iret B2 Z2 dL_tryIf_14 ⟨by rw [hcz]; rfl, Or.inr ⟨by rw [hcz]; decide, hPz⟩⟩
    · cases hjz

set_option maxHeartbeats 4000000 in
theorem c_L_tryKeep {Y : gY} {l : Launch} {S : SS} (hst : l.stackTraces = false) (hw : wf (vw S 0)) (s : Int) (hs : rI s) : gVH Y l yL_tryKeep cL_tryKeep 3 [(0, 5, 6, 13)] (mX7_save.2.2.2.2 + 11) S [.ref (yA Y 72), .int (iI s)] (yP (cd_01 s) (S (4 * 0) 0) (-9999001) (0) (0) (fun S' => vw S' (2 + s.toNat) = vw S 0 ∧ S' (80 + s.toNat) 0 = 1 ∧ ∀ m : Nat, (m < 4 * (2 + s.toNat) ∨ 4 * (2 + s.toNat) + 4 ≤ m) → m ≠ 80 + s.toNat → S' m = S m) (fun S' => S' = S)) := by
  refine gVH_of (by decide) (Nat.le_of_ble_eq_true rfl) ?_
  intro X hXl B tab hcap Z
  subst hXl
  show gW Y X S 0 [(0, .ref (yA Y 72)), (1, .int (iI s))] []
  refine g_aload_n (q := 1) B dL_tryKeep_0 rfl 0 rfl ?_
  refine g_iload_n (q := 2) B dL_tryKeep_1 rfl 1 rfl ?_
  refine g_callX (As := [.int (iI s)]) (st := []) B dL_tryKeep_2 (c_X7_save (Y := Y) (l := xL X) (S := S) hst hw s hs) eX7_save w823 (Nat.le_refl _) rfl rfl (Nat.le_of_ble_eq_true rfl) (by rw [hcap.1]; exact hcap.2.2.1) (by rw [hcap.2.1]; exact hcap.2.2.2) (fun v Sv hv => ?_) (fun Ex Sv hx => ?_)
  · obtain ⟨hcz, rfl, hPz⟩ := hv
    have B2 := gB_up B (by rw [hcap.1]; exact hcap.2.2.1) (by rw [hcap.2.1]; exact hcap.2.2.2)
    have Z2 : gZ Y (xUp X) (yP (cd_01 s) (S (4 * 0) 0) (-9999001) (0) (0) (fun S' => vw S' (2 + s.toNat) = vw S 0 ∧ S' (80 + s.toNat) 0 = 1 ∧ ∀ m : Nat, (m < 4 * (2 + s.toNat) ∨ 4 * (2 + s.toNat) + 4 ≤ m) → m ≠ 80 + s.toNat → S' m = S m) (fun S' => S' = S)) := ⟨Z.1, by show xCells X + 1 ≤ 1; rw [hcap.1]; decide, by show xSlots X + 6 ≤ 6; rw [hcap.2.1]; decide⟩
    exact gz_iret B2 Z2 dL_tryKeep_5 ⟨by rw [tv_0 hcz], Or.inl ⟨hcz, hPz⟩⟩
  · obtain ⟨jz, hcz, hjz, hPz⟩ := hx
    have B2 := gB_up B (by rw [hcap.1]; exact hcap.2.2.1) (by rw [hcap.2.1]; exact hcap.2.2.2)
    have Z2 : gZ Y (xUp X) (yP (cd_01 s) (S (4 * 0) 0) (-9999001) (0) (0) (fun S' => vw S' (2 + s.toNat) = vw S 0 ∧ S' (80 + s.toNat) 0 = 1 ∧ ∀ m : Nat, (m < 4 * (2 + s.toNat) ∨ 4 * (2 + s.toNat) + 4 ≤ m) → m ≠ 80 + s.toNat → S' m = S m) (fun S' => S' = S)) := ⟨Z.1, by show xCells X + 1 ≤ 1; rw [hcap.1]; decide, by show xSlots X + 6 ≤ 6; rw [hcap.2.1]; decide⟩
    rcases jz with _ | jz
    · cases hjz
      refine g_catch B2 [] ⟨0, 5, 6, 13⟩ [] tab (fun z hz => absurd hz List.not_mem_nil) (by decide) (by decide) wl_I (by decide) (fun q9 => ?_)
      show gW Y (xUp X) Sv 6 [(0, .ref (yA Y 72)), (1, .int (iI s))] [.ref q9]
      refine g_astore_n (q := 7) B2 dL_tryKeep_6 rfl (by decide) (L' := [(2, .ref q9), (0, .ref (yA Y 72)), (1, .int (iI s))]) rfl ?_
      refine g_ldc (z := -9999001) (q := 9) B2 dL_tryKeep_7 rfl w573 (by decide) ?_
      exact gz_iret B2 Z2 dL_tryKeep_9 ⟨by rw [hcz]; rfl, Or.inr ⟨by rw [hcz]; decide, hPz⟩⟩
    · cases hjz

set_option maxHeartbeats 4000000 in
theorem c_L_tryBack {Y : gY} {l : Launch} {S : SS} (hst : l.stackTraces = false) (hw : wf (vw S 0)) (hz80 : S 80 0 = 0 ∨ S 80 0 = 1) (hz81 : S 81 0 = 0 ∨ S 81 0 = 1) (s : Int) (hs : rI s) : gVH Y l yL_tryBack cL_tryBack 3 [(0, 5, 6, 13), (0, 5, 10, 31)] (mX7_restore.2.2.2.2 + 11) S [.ref (yA Y 72), .int (iI s)] (yP (cd_rest s (S (80 + s.toNat) 0)) (vw S (2 + s.toNat) 0) (-9999001) (-9999003) (0) (fun S' => vw S' 0 = vw S (2 + s.toNat) ∧ (S' 75 0 = S 75 0 ∧ S' 75 1 = 0) ∧ ∀ m : Nat, 4 ≤ m → m ≠ 75 → S' m = S m) (fun S' => S' = S)) := by
  refine gVH_of (by decide) (Nat.le_of_ble_eq_true rfl) ?_
  intro X hXl B tab hcap Z
  subst hXl
  show gW Y X S 0 [(0, .ref (yA Y 72)), (1, .int (iI s))] []
  refine g_aload_n (q := 1) B dL_tryBack_0 rfl 0 rfl ?_
  refine g_iload_n (q := 2) B dL_tryBack_1 rfl 1 rfl ?_
  refine g_callX (As := [.int (iI s)]) (st := []) B dL_tryBack_2 (c_X7_restore (Y := Y) (l := xL X) (S := S) hst hw hz80 hz81 s hs) eX7_restore w831 (Nat.le_refl _) rfl rfl (Nat.le_of_ble_eq_true rfl) (by rw [hcap.1]; exact hcap.2.2.1) (by rw [hcap.2.1]; exact hcap.2.2.2) (fun v Sv hv => ?_) (fun Ex Sv hx => ?_)
  · obtain ⟨hcz, rfl, hPz⟩ := hv
    have B2 := gB_up B (by rw [hcap.1]; exact hcap.2.2.1) (by rw [hcap.2.1]; exact hcap.2.2.2)
    have Z2 : gZ Y (xUp X) (yP (cd_rest s (S (80 + s.toNat) 0)) (vw S (2 + s.toNat) 0) (-9999001) (-9999003) (0) (fun S' => vw S' 0 = vw S (2 + s.toNat) ∧ (S' 75 0 = S 75 0 ∧ S' 75 1 = 0) ∧ ∀ m : Nat, 4 ≤ m → m ≠ 75 → S' m = S m) (fun S' => S' = S)) := ⟨Z.1, by show xCells X + 1 ≤ 1; rw [hcap.1]; decide, by show xSlots X + 6 ≤ 6; rw [hcap.2.1]; decide⟩
    exact gz_iret B2 Z2 dL_tryBack_5 ⟨by rw [tv_0 hcz], Or.inl ⟨hcz, hPz⟩⟩
  · obtain ⟨jz, hcz, hjz, hPz⟩ := hx
    have B2 := gB_up B (by rw [hcap.1]; exact hcap.2.2.1) (by rw [hcap.2.1]; exact hcap.2.2.2)
    have Z2 : gZ Y (xUp X) (yP (cd_rest s (S (80 + s.toNat) 0)) (vw S (2 + s.toNat) 0) (-9999001) (-9999003) (0) (fun S' => vw S' 0 = vw S (2 + s.toNat) ∧ (S' 75 0 = S 75 0 ∧ S' 75 1 = 0) ∧ ∀ m : Nat, 4 ≤ m → m ≠ 75 → S' m = S m) (fun S' => S' = S)) := ⟨Z.1, by show xCells X + 1 ≤ 1; rw [hcap.1]; decide, by show xSlots X + 6 ≤ 6; rw [hcap.2.1]; decide⟩
    rcases jz with _ | _ | jz
    · cases hjz
      refine g_catch B2 [] ⟨0, 5, 6, 13⟩ [⟨0, 5, 10, 31⟩] tab (fun z hz => absurd hz List.not_mem_nil) (by decide) (by decide) wl_I (by decide) (fun q9 => ?_)
      show gW Y (xUp X) Sv 6 [(0, .ref (yA Y 72)), (1, .int (iI s))] [.ref q9]
      refine g_astore_n (q := 7) B2 dL_tryBack_6 rfl (by decide) (L' := [(2, .ref q9), (0, .ref (yA Y 72)), (1, .int (iI s))]) rfl ?_
      refine g_ldc (z := -9999001) (q := 9) B2 dL_tryBack_7 rfl w573 (by decide) ?_
      exact gz_iret B2 Z2 dL_tryBack_9 ⟨by rw [hcz]; rfl, Or.inr ⟨by rw [hcz]; decide, hPz⟩⟩
    · cases hjz
      refine g_catch B2 [⟨0, 5, 6, 13⟩] ⟨0, 5, 10, 31⟩ [] tab (fun z hz => by cases List.mem_singleton.mp hz; exact ⟨by decide, eI, wl_I, by decide⟩) (by decide) (by decide) wl_S (by decide) (fun q9 => ?_)
      show gW Y (xUp X) Sv 10 [(0, .ref (yA Y 72)), (1, .int (iI s))] [.ref q9]
      refine g_astore_n (q := 11) B2 dL_tryBack_10 rfl (by decide) (L' := [(2, .ref q9), (0, .ref (yA Y 72)), (1, .int (iI s))]) rfl ?_
      refine g_ldc (z := -9999003) (q := 13) B2 dL_tryBack_11 rfl w280 (by decide) ?_
      exact gz_iret B2 Z2 dL_tryBack_13 ⟨by rw [hcz]; rfl, Or.inr ⟨by rw [hcz]; decide, hPz⟩⟩
    · cases hjz

set_option maxHeartbeats 4000000 in
theorem c_L_cuts {Y : gY} {l : Launch} {S : SS} (hst : l.stackTraces = false) (hw : wf (vw S 0)) (hnx : 0 ≤ S 75 0 ∧ S 75 0 < 14) (hct : 0 ≤ S 75 1 ∧ S 75 1 ≤ 14) (b : Int) (hb : b = 0 ∨ b = 1) (p : Int) (hp : rI p) : gVH Y l yL_cuts cL_cuts 4 [(0, 6, 7, 13)] (mX7_cut.2.2.2.2 + 11) S [.ref (yA Y 72), .int (iI p), .int (iI b)] (yP (cd_cut (vw S 0) p) (runsF (cutG (vw S 0) p b)) (-9999001) (0) (0) (fun S' => chP S S' (cutG (vw S 0) p b)) (fun S' => S' = S)) := by
  refine gVH_of (by decide) (Nat.le_of_ble_eq_true rfl) ?_
  intro X hXl B tab hcap Z
  subst hXl
  show gW Y X S 0 [(0, .ref (yA Y 72)), (1, .int (iI p)), (2, .int (iI b))] []
  refine g_aload_n (q := 1) B dL_cuts_0 rfl 0 rfl ?_
  refine g_iload_n (q := 2) B dL_cuts_1 rfl 1 rfl ?_
  refine g_iload_n (q := 3) B dL_cuts_2 rfl 2 rfl ?_
  refine g_callX (As := [.int (iI p), .int (iI b)]) (st := []) B dL_cuts_3 (c_X7_cut (Y := Y) (l := xL X) (S := S) hst hw hnx hct b hb p hp) eX7_cut w847 (Nat.le_refl _) rfl rfl (Nat.le_of_ble_eq_true rfl) (by rw [hcap.1]; exact hcap.2.2.1) (by rw [hcap.2.1]; exact hcap.2.2.2) (fun v Sv hv => ?_) (fun Ex Sv hx => ?_)
  · obtain ⟨hcz, rfl, hPz⟩ := hv
    have B2 := gB_up B (by rw [hcap.1]; exact hcap.2.2.1) (by rw [hcap.2.1]; exact hcap.2.2.2)
    have Z2 : gZ Y (xUp X) (yP (cd_cut (vw S 0) p) (runsF (cutG (vw S 0) p b)) (-9999001) (0) (0) (fun S' => chP S S' (cutG (vw S 0) p b)) (fun S' => S' = S)) := ⟨Z.1, by show xCells X + 1 ≤ 1; rw [hcap.1]; decide, by show xSlots X + 6 ≤ 6; rw [hcap.2.1]; decide⟩
    exact gz_iret B2 Z2 dL_cuts_6 ⟨by rw [tv_0 hcz], Or.inl ⟨hcz, hPz⟩⟩
  · obtain ⟨jz, hcz, hjz, hPz⟩ := hx
    have B2 := gB_up B (by rw [hcap.1]; exact hcap.2.2.1) (by rw [hcap.2.1]; exact hcap.2.2.2)
    have Z2 : gZ Y (xUp X) (yP (cd_cut (vw S 0) p) (runsF (cutG (vw S 0) p b)) (-9999001) (0) (0) (fun S' => chP S S' (cutG (vw S 0) p b)) (fun S' => S' = S)) := ⟨Z.1, by show xCells X + 1 ≤ 1; rw [hcap.1]; decide, by show xSlots X + 6 ≤ 6; rw [hcap.2.1]; decide⟩
    rcases jz with _ | jz
    · cases hjz
      refine g_catch B2 [] ⟨0, 6, 7, 13⟩ [] tab (fun z hz => absurd hz List.not_mem_nil) (by decide) (by decide) wl_I (by decide) (fun q9 => ?_)
      show gW Y (xUp X) Sv 7 [(0, .ref (yA Y 72)), (1, .int (iI p)), (2, .int (iI b))] [.ref q9]
      refine g_astore_n (q := 8) B2 dL_cuts_7 rfl (by decide) (L' := [(3, .ref q9), (0, .ref (yA Y 72)), (1, .int (iI p)), (2, .int (iI b))]) rfl ?_
      refine g_ldc (z := -9999001) (q := 10) B2 dL_cuts_8 rfl w573 (by decide) ?_
      exact gz_iret B2 Z2 dL_cuts_10 ⟨by rw [hcz]; rfl, Or.inr ⟨by rw [hcz]; decide, hPz⟩⟩
    · cases hjz

set_option maxHeartbeats 4000000 in
theorem c_L_doScript {Y : gY} {l : Launch} {S : SS} (hst : l.stackTraces = false) (hw : wf (vw S 0)) (h780 : S 78 0 = 0) (n s : Int) (hn : rI n) (hs : rL s) : gVH Y l yL_doScript cL_doScript 5 [(0, 6, 7, 20)] (mX7_runScript.2.2.2.2 + 11) S [.ref (yA Y 72), .int (iI n), .long (lI s)] (yP (cd_run n s) (rcA s n n.toNat (vw S 0)) (-9999002) (0) (0) (fun S' => f1t S S' ∧ S' 78 0 = 0) (fun S' => S' = S)) := by
  refine gVH_of (by decide) (Nat.le_of_ble_eq_true rfl) ?_
  intro X hXl B tab hcap Z
  subst hXl
  show gW Y X S 0 [(0, .ref (yA Y 72)), (1, .int (iI n)), (2, .long (lI s))] []
  refine g_aload_n (q := 1) B dL_doScript_0 rfl 0 rfl ?_
  refine g_iload_n (q := 2) B dL_doScript_1 rfl 1 rfl ?_
  refine g_lload_n (q := 3) B dL_doScript_2 rfl 2 rfl ?_
  refine g_callX (As := [.int (iI n), .long (lI s)]) (st := []) B dL_doScript_3 (c_X7_runScript (Y := Y) (l := xL X) (S := S) hst hw h780 n s hn hs) eX7_runScript w855 (Nat.le_refl _) rfl rfl (Nat.le_of_ble_eq_true rfl) (by rw [hcap.1]; exact hcap.2.2.1) (by rw [hcap.2.1]; exact hcap.2.2.2) (fun v Sv hv => ?_) (fun Ex Sv hx => ?_)
  · obtain ⟨hcz, rfl, hPz⟩ := hv
    have B2 := gB_up B (by rw [hcap.1]; exact hcap.2.2.1) (by rw [hcap.2.1]; exact hcap.2.2.2)
    have Z2 : gZ Y (xUp X) (yP (cd_run n s) (rcA s n n.toNat (vw S 0)) (-9999002) (0) (0) (fun S' => f1t S S' ∧ S' 78 0 = 0) (fun S' => S' = S)) := ⟨Z.1, by show xCells X + 1 ≤ 1; rw [hcap.1]; decide, by show xSlots X + 6 ≤ 6; rw [hcap.2.1]; decide⟩
    exact gz_iret B2 Z2 dL_doScript_6 ⟨by rw [tv_0 hcz], Or.inl ⟨hcz, hPz⟩⟩
  · obtain ⟨jz, hcz, hjz, hPz⟩ := hx
    have B2 := gB_up B (by rw [hcap.1]; exact hcap.2.2.1) (by rw [hcap.2.1]; exact hcap.2.2.2)
    have Z2 : gZ Y (xUp X) (yP (cd_run n s) (rcA s n n.toNat (vw S 0)) (-9999002) (0) (0) (fun S' => f1t S S' ∧ S' 78 0 = 0) (fun S' => S' = S)) := ⟨Z.1, by show xCells X + 1 ≤ 1; rw [hcap.1]; decide, by show xSlots X + 6 ≤ 6; rw [hcap.2.1]; decide⟩
    rcases jz with _ | jz
    · cases hjz
      refine g_catch B2 [] ⟨0, 6, 7, 20⟩ [] tab (fun z hz => absurd hz List.not_mem_nil) (by decide) (by decide) wl_A (by decide) (fun q9 => ?_)
      show gW Y (xUp X) Sv 7 [(0, .ref (yA Y 72)), (1, .int (iI n)), (2, .long (lI s))] [.ref q9]
      refine g_astore (q := 9) B2 dL_doScript_7 rfl (by decide) (L' := [(4, .ref q9), (0, .ref (yA Y 72)), (1, .int (iI n)), (2, .long (lI s))]) rfl ?_
      refine g_ldc (z := -9999002) (q := 11) B2 dL_doScript_9 rfl w279 (by decide) ?_
      exact gz_iret B2 Z2 dL_doScript_11 ⟨by rw [hcz]; rfl, Or.inr ⟨by rw [hcz]; decide, hPz⟩⟩
    · cases hjz

set_option maxHeartbeats 4000000 in
theorem c_L_doSimulate {Y : gY} {l : Launch} {S : SS} (hst : l.stackTraces = false) (hw : wf (vw S 0)) (z m : Int) (hz : rL z) (hm : rI m) : gVH Y l yL_doSimulate cL_doSimulate 5 [(0, 6, 7, 20)] (mX7_simulate.2.2.2.2 + 11) S [.ref (yA Y 72), .long (lI z), .int (iI m)] (yP (cd_sim m) (laV (plT (vw S 0) z m.toNat)) (-9999002) (0) (0) (fun S' => fr S S' 1) (fun S' => S' = S)) := by
  refine gVH_of (by decide) (Nat.le_of_ble_eq_true rfl) ?_
  intro X hXl B tab hcap Z
  subst hXl
  show gW Y X S 0 [(0, .ref (yA Y 72)), (1, .long (lI z)), (3, .int (iI m))] []
  refine g_aload_n (q := 1) B dL_doSimulate_0 rfl 0 rfl ?_
  refine g_lload_n (q := 2) B dL_doSimulate_1 rfl 1 rfl ?_
  refine g_iload_n (q := 3) B dL_doSimulate_2 rfl 2 rfl ?_
  refine g_callX (As := [.long (lI z), .int (iI m)]) (st := []) B dL_doSimulate_3 (c_X7_simulate (Y := Y) (l := xL X) (S := S) hst hw z m hz hm) eX7_simulate w890 (Nat.le_refl _) rfl rfl (Nat.le_of_ble_eq_true rfl) (by rw [hcap.1]; exact hcap.2.2.1) (by rw [hcap.2.1]; exact hcap.2.2.2) (fun v Sv hv => ?_) (fun Ex Sv hx => ?_)
  · obtain ⟨hcz, rfl, hPz⟩ := hv
    have B2 := gB_up B (by rw [hcap.1]; exact hcap.2.2.1) (by rw [hcap.2.1]; exact hcap.2.2.2)
    have Z2 : gZ Y (xUp X) (yP (cd_sim m) (laV (plT (vw S 0) z m.toNat)) (-9999002) (0) (0) (fun S' => fr S S' 1) (fun S' => S' = S)) := ⟨Z.1, by show xCells X + 1 ≤ 1; rw [hcap.1]; decide, by show xSlots X + 6 ≤ 6; rw [hcap.2.1]; decide⟩
    exact gz_iret B2 Z2 dL_doSimulate_6 ⟨by rw [tv_0 hcz], Or.inl ⟨hcz, hPz⟩⟩
  · obtain ⟨jz, hcz, hjz, hPz⟩ := hx
    have B2 := gB_up B (by rw [hcap.1]; exact hcap.2.2.1) (by rw [hcap.2.1]; exact hcap.2.2.2)
    have Z2 : gZ Y (xUp X) (yP (cd_sim m) (laV (plT (vw S 0) z m.toNat)) (-9999002) (0) (0) (fun S' => fr S S' 1) (fun S' => S' = S)) := ⟨Z.1, by show xCells X + 1 ≤ 1; rw [hcap.1]; decide, by show xSlots X + 6 ≤ 6; rw [hcap.2.1]; decide⟩
    rcases jz with _ | jz
    · cases hjz
      refine g_catch B2 [] ⟨0, 6, 7, 20⟩ [] tab (fun z hz => absurd hz List.not_mem_nil) (by decide) (by decide) wl_A (by decide) (fun q9 => ?_)
      show gW Y (xUp X) Sv 7 [(0, .ref (yA Y 72)), (1, .long (lI z)), (3, .int (iI m))] [.ref q9]
      refine g_astore (q := 9) B2 dL_doSimulate_7 rfl (by decide) (L' := [(4, .ref q9), (0, .ref (yA Y 72)), (1, .long (lI z)), (3, .int (iI m))]) rfl ?_
      refine g_ldc (z := -9999002) (q := 11) B2 dL_doSimulate_9 rfl w279 (by decide) ?_
      exact gz_iret B2 Z2 dL_doSimulate_11 ⟨by rw [hcz]; rfl, Or.inr ⟨by rw [hcz]; decide, hPz⟩⟩
    · cases hjz
