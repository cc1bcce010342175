set_option maxHeartbeats 4000000 in
theorem c_J6_bitCount_0f7a4 {Y : gY} {l : Launch} {S : SS} (x : Nat) (hx : x < 65536) : gM Y l mJ6_bitCount_0f7a4 S [.int (iI ((x : Int)))] (pV (.int (iI (cn x 16 : Nat))) (fun S' => S' = S)) := by
  refine gM_of (by decide) (Nat.le_of_ble_eq_true rfl) ?_
  intro X hXl B E
  have h1 : bc1 x ≤ 65535 := by unfold bc1; omega
  have h2 : bc2 (bc1 x) ≤ 131070 := by have a1 := Nat.and_le_left (n := bc1 x) (m := 858993459); have a2 := Nat.and_le_left (n := bc1 x / 4) (m := 858993459); unfold bc2; omega
  have h3 : bc3 (bc2 (bc1 x)) ≤ 262140 := by have a1 := Nat.and_le_left (n := bc2 (bc1 x) + bc2 (bc1 x) / 16) (m := 252645135); unfold bc3; omega
  have h4 : bc4 (bc3 (bc2 (bc1 x))) ≤ 524280 := by unfold bc4; omega
  have h5 : bc5 (bc4 (bc3 (bc2 (bc1 x)))) ≤ 1048560 := by unfold bc5; omega
  have ha := Nat.and_le_left (n := x / 2) (m := 1431655765)
  show gW Y X S 0 [(0, .int (iI ((x : Int))))] []
  refine g_iload_n (q := 1) B dJ6_bitCount_0f7a4_0 rfl 0 rfl ?_
  refine g_iload_n (q := 2) B dJ6_bitCount_0f7a4_1 rfl 0 rfl ?_
  refine g_iconst (q := 3) B dJ6_bitCount_0f7a4_2 rfl ?_
  refine g_iushr (v := (iI (((x / 2 : Nat) : Int)))) (q := 4) B dJ6_bitCount_0f7a4_3 rfl (iI_ushrN (k := 1) (by omega) (by decide)) ?_
  refine g_ldcw (z := 1431655765) (q := 7) B dJ6_bitCount_0f7a4_4 rfl w430 (by decide) ?_
  refine g_iand (v := (iI (((x / 2 &&& 1431655765 : Nat) : Int)))) (q := 8) B dJ6_bitCount_0f7a4_7 rfl (iI_andN _ 1431655765) ?_
  refine g_isub (q := 9) B dJ6_bitCount_0f7a4_8 rfl ?_
  refine g_eqT (st' := [.int (iI (((bc1 x : Nat) : Int)))]) (congrArg (fun z => Value.int (iI z) :: []) (show ((x : Int)) - (((x / 2 &&& 1431655765 : Nat) : Int)) = ((bc1 x : Nat) : Int) by unfold bc1; omega)) ?_
  refine g_istore_n (q := 10) B dJ6_bitCount_0f7a4_9 rfl (by decide) (L' := [(0, .int (iI (((bc1 x : Nat) : Int))))]) rfl ?_
  refine g_iload_n (q := 11) B dJ6_bitCount_0f7a4_10 rfl 0 rfl ?_
  refine g_ldcw (z := 858993459) (q := 14) B dJ6_bitCount_0f7a4_11 rfl w431 (by decide) ?_
  refine g_iand (v := (iI (((bc1 x &&& 858993459 : Nat) : Int)))) (q := 15) B dJ6_bitCount_0f7a4_14 rfl (iI_andN _ 858993459) ?_
  refine g_iload_n (q := 16) B dJ6_bitCount_0f7a4_15 rfl 0 rfl ?_
  refine g_iconst (q := 17) B dJ6_bitCount_0f7a4_16 rfl ?_
  refine g_iushr (v := (iI (((bc1 x / 4 : Nat) : Int)))) (q := 18) B dJ6_bitCount_0f7a4_17 rfl (iI_ushrN (k := 2) (by omega) (by decide)) ?_
  refine g_ldcw (z := 858993459) (q := 21) B dJ6_bitCount_0f7a4_18 rfl w431 (by decide) ?_
  refine g_iand (v := (iI (((bc1 x / 4 &&& 858993459 : Nat) : Int)))) (q := 22) B dJ6_bitCount_0f7a4_21 rfl (iI_andN _ 858993459) ?_
  refine g_iadd (q := 23) B dJ6_bitCount_0f7a4_22 rfl ?_
  refine g_eqT (st' := [.int (iI (((bc2 (bc1 x) : Nat) : Int)))]) (congrArg (fun z => Value.int (iI z) :: []) (show (((bc1 x &&& 858993459 : Nat) : Int)) + (((bc1 x / 4 &&& 858993459 : Nat) : Int)) = ((bc2 (bc1 x) : Nat) : Int) by unfold bc2; omega)) ?_
  refine g_istore_n (q := 24) B dJ6_bitCount_0f7a4_23 rfl (by decide) (L' := [(0, .int (iI (((bc2 (bc1 x) : Nat) : Int))))]) rfl ?_
  refine g_iload_n (q := 25) B dJ6_bitCount_0f7a4_24 rfl 0 rfl ?_
  refine g_iload_n (q := 26) B dJ6_bitCount_0f7a4_25 rfl 0 rfl ?_
  refine g_iconst (q := 27) B dJ6_bitCount_0f7a4_26 rfl ?_
  refine g_iushr (v := (iI (((bc2 (bc1 x) / 16 : Nat) : Int)))) (q := 28) B dJ6_bitCount_0f7a4_27 rfl (iI_ushrN (k := 4) (by omega) (by decide)) ?_
  refine g_iadd (q := 29) B dJ6_bitCount_0f7a4_28 rfl ?_
  refine g_eqT (st' := [.int (iI (((bc2 (bc1 x) + bc2 (bc1 x) / 16 : Nat) : Int)))]) (congrArg (fun z => Value.int (iI z) :: []) (show (((bc2 (bc1 x) : Nat) : Int)) + (((bc2 (bc1 x) / 16 : Nat) : Int)) = ((bc2 (bc1 x) + bc2 (bc1 x) / 16 : Nat) : Int) by omega)) ?_
  refine g_ldcw (z := 252645135) (q := 32) B dJ6_bitCount_0f7a4_29 rfl w432 (by decide) ?_
  refine g_iand (v := (iI (((bc3 (bc2 (bc1 x)) : Nat) : Int)))) (q := 33) B dJ6_bitCount_0f7a4_32 rfl (iI_andN (bc2 (bc1 x) + bc2 (bc1 x) / 16) 252645135) ?_
  refine g_istore_n (q := 34) B dJ6_bitCount_0f7a4_33 rfl (by decide) (L' := [(0, .int (iI (((bc3 (bc2 (bc1 x)) : Nat) : Int))))]) rfl ?_
  refine g_iload_n (q := 35) B dJ6_bitCount_0f7a4_34 rfl 0 rfl ?_
  refine g_iload_n (q := 36) B dJ6_bitCount_0f7a4_35 rfl 0 rfl ?_
  refine g_bipush (q := 38) B dJ6_bitCount_0f7a4_36 rfl (by decide) ?_
  refine g_iushr (v := (iI (((bc3 (bc2 (bc1 x)) / 256 : Nat) : Int)))) (q := 39) B dJ6_bitCount_0f7a4_38 rfl (iI_ushrN (k := 8) (by omega) (by decide)) ?_
  refine g_iadd (q := 40) B dJ6_bitCount_0f7a4_39 rfl ?_
  refine g_eqT (st' := [.int (iI (((bc4 (bc3 (bc2 (bc1 x))) : Nat) : Int)))]) (congrArg (fun z => Value.int (iI z) :: []) (show (((bc3 (bc2 (bc1 x)) : Nat) : Int)) + (((bc3 (bc2 (bc1 x)) / 256 : Nat) : Int)) = ((bc4 (bc3 (bc2 (bc1 x))) : Nat) : Int) by unfold bc4; omega)) ?_
  refine g_istore_n (q := 41) B dJ6_bitCount_0f7a4_40 rfl (by decide) (L' := [(0, .int (iI (((bc4 (bc3 (bc2 (bc1 x))) : Nat) : Int))))]) rfl ?_
  refine g_iload_n (q := 42) B dJ6_bitCount_0f7a4_41 rfl 0 rfl ?_
  refine g_iload_n (q := 43) B dJ6_bitCount_0f7a4_42 rfl 0 rfl ?_
  refine g_bipush (q := 45) B dJ6_bitCount_0f7a4_43 rfl (by decide) ?_
  refine g_iushr (v := (iI (((bc4 (bc3 (bc2 (bc1 x))) / 65536 : Nat) : Int)))) (q := 46) B dJ6_bitCount_0f7a4_45 rfl (iI_ushrN (k := 16) (by omega) (by decide)) ?_
  refine g_iadd (q := 47) B dJ6_bitCount_0f7a4_46 rfl ?_
  refine g_eqT (st' := [.int (iI (((bc5 (bc4 (bc3 (bc2 (bc1 x)))) : Nat) : Int)))]) (congrArg (fun z => Value.int (iI z) :: []) (show (((bc4 (bc3 (bc2 (bc1 x))) : Nat) : Int)) + (((bc4 (bc3 (bc2 (bc1 x))) / 65536 : Nat) : Int)) = ((bc5 (bc4 (bc3 (bc2 (bc1 x)))) : Nat) : Int) by unfold bc5; omega)) ?_
  refine g_istore_n (q := 48) B dJ6_bitCount_0f7a4_47 rfl (by decide) (L' := [(0, .int (iI (((bc5 (bc4 (bc3 (bc2 (bc1 x)))) : Nat) : Int))))]) rfl ?_
  refine g_iload_n (q := 49) B dJ6_bitCount_0f7a4_48 rfl 0 rfl ?_
  refine g_bipush (q := 51) B dJ6_bitCount_0f7a4_49 rfl (by decide) ?_
  refine g_iand (v := (iI (((bcx x : Nat) : Int)))) (q := 52) B dJ6_bitCount_0f7a4_51 rfl (iI_andN _ 63) ?_
  refine g_iret B E dJ6_bitCount_0f7a4_52 ?_
  exact ⟨by rw [bcx_cn hx], rfl⟩
set_option maxHeartbeats 4000000 in
theorem c_X7_isSister {Y : gY} {l : Launch} {S : SS} (x : Int) (hx : rI x) : gM Y l mX7_isSister S [.int (iI x)] (pV (.int (bI (x = 0 ∨ x = 1))) (fun S' => S' = S)) := by
  refine gM_of (by decide) (Nat.le_of_ble_eq_true rfl) ?_
  intro X hXl B E
  obtain ⟨hx0, hx1⟩ := hx
  show gW Y X S 0 [(0, .int (iI x))] []
  refine g_iload_n (q := 1) B dX7_isSister_0 rfl 0 rfl ?_
  refine g_if_eq (t := 9) (q := 4) B dX7_isSister_1 (by decide) rfl ⟨by omega, by omega⟩ (fun cq1 => ?_) (fun cq1 => ?_)
  · refine g_iconst (q := 10) B dX7_isSister_9 rfl ?_
    refine g_goto (q := 14) B dX7_isSister_10 (by decide) ?_
    refine g_zret B E dX7_isSister_14 rfl (by decide) ?_
    exact ⟨zt (by omega), rfl⟩
  · refine g_iload_n (q := 5) B dX7_isSister_4 rfl 0 rfl ?_
    refine g_iconst (q := 6) B dX7_isSister_5 rfl ?_
    refine g_icmp_ne (t := 13) (q := 9) B dX7_isSister_6 (by decide) rfl ⟨by omega, by omega⟩ ⟨by omega, by omega⟩ (fun cq6 => ?_) (fun cq6 => ?_)
    · refine g_iconst (q := 14) B dX7_isSister_13 rfl ?_
      refine g_zret B E dX7_isSister_14 rfl (by decide) ?_
      exact ⟨zf (by omega), rfl⟩
    · refine g_iconst (q := 10) B dX7_isSister_9 rfl ?_
      refine g_goto (q := 14) B dX7_isSister_10 (by decide) ?_
      refine g_zret B E dX7_isSister_14 rfl (by decide) ?_
      exact ⟨zt (by omega), rfl⟩
set_option maxHeartbeats 4000000 in
theorem c_X7_isSetting {Y : gY} {l : Launch} {S : SS} (x : Int) (hx : rI x) : gM Y l mX7_isSetting S [.int (iI x)] (pV (.int (bI (x = 0 ∨ x = 1))) (fun S' => S' = S)) := by
  refine gM_of (by decide) (Nat.le_of_ble_eq_true rfl) ?_
  intro X hXl B E
  obtain ⟨hx0, hx1⟩ := hx
  show gW Y X S 0 [(0, .int (iI x))] []
  refine g_iload_n (q := 1) B dX7_isSetting_0 rfl 0 rfl ?_
  refine g_if_eq (t := 9) (q := 4) B dX7_isSetting_1 (by decide) rfl ⟨by omega, by omega⟩ (fun cq1 => ?_) (fun cq1 => ?_)
  · refine g_iconst (q := 10) B dX7_isSetting_9 rfl ?_
    refine g_goto (q := 14) B dX7_isSetting_10 (by decide) ?_
    refine g_zret B E dX7_isSetting_14 rfl (by decide) ?_
    exact ⟨zt (by omega), rfl⟩
  · refine g_iload_n (q := 5) B dX7_isSetting_4 rfl 0 rfl ?_
    refine g_iconst (q := 6) B dX7_isSetting_5 rfl ?_
    refine g_icmp_ne (t := 13) (q := 9) B dX7_isSetting_6 (by decide) rfl ⟨by omega, by omega⟩ ⟨by omega, by omega⟩ (fun cq6 => ?_) (fun cq6 => ?_)
    · refine g_iconst (q := 14) B dX7_isSetting_13 rfl ?_
      refine g_zret B E dX7_isSetting_14 rfl (by decide) ?_
      exact ⟨zf (by omega), rfl⟩
    · refine g_iconst (q := 10) B dX7_isSetting_9 rfl ?_
      refine g_goto (q := 14) B dX7_isSetting_10 (by decide) ?_
      refine g_zret B E dX7_isSetting_14 rfl (by decide) ?_
      exact ⟨zt (by omega), rfl⟩
set_option maxHeartbeats 4000000 in
theorem c_X7_isKind {Y : gY} {l : Launch} {S : SS} (x : Int) (hx : rI x) : gM Y l mX7_isKind S [.int (iI x)] (pV (.int (bI (0 ≤ x ∧ x < 4))) (fun S' => S' = S)) := by
  refine gM_of (by decide) (Nat.le_of_ble_eq_true rfl) ?_
  intro X hXl B E
  obtain ⟨hx0, hx1⟩ := hx
  show gW Y X S 0 [(0, .int (iI x))] []
  refine g_iload_n (q := 1) B dX7_isKind_0 rfl 0 rfl ?_
  refine g_if_lt (t := 13) (q := 4) B dX7_isKind_1 (by decide) rfl ⟨by omega, by omega⟩ (fun cq1 => ?_) (fun cq1 => ?_)
  · refine g_iconst (q := 14) B dX7_isKind_13 rfl ?_
    refine g_zret B E dX7_isKind_14 rfl (by decide) ?_
    exact ⟨zf (by omega), rfl⟩
  · refine g_iload_n (q := 5) B dX7_isKind_4 rfl 0 rfl ?_
    refine g_iconst (q := 6) B dX7_isKind_5 rfl ?_
    refine g_icmp_ge (t := 13) (q := 9) B dX7_isKind_6 (by decide) rfl ⟨by omega, by omega⟩ ⟨by omega, by omega⟩ (fun cq6 => ?_) (fun cq6 => ?_)
    · refine g_iconst (q := 14) B dX7_isKind_13 rfl ?_
      refine g_zret B E dX7_isKind_14 rfl (by decide) ?_
      exact ⟨zf (by omega), rfl⟩
    · refine g_iconst (q := 10) B dX7_isKind_9 rfl ?_
      refine g_goto (q := 14) B dX7_isKind_10 (by decide) ?_
      refine g_zret B E dX7_isKind_14 rfl (by decide) ?_
      exact ⟨zt (by omega), rfl⟩
set_option maxHeartbeats 4000000 in
theorem c_X7_isWeight {Y : gY} {l : Launch} {S : SS} (x : Int) (hx : rI x) : gM Y l mX7_isWeight S [.int (iI x)] (pV (.int (bI (1 ≤ x ∧ x ≤ 9))) (fun S' => S' = S)) := by
  refine gM_of (by decide) (Nat.le_of_ble_eq_true rfl) ?_
  intro X hXl B E
  obtain ⟨hx0, hx1⟩ := hx
  show gW Y X S 0 [(0, .int (iI x))] []
  refine g_iload_n (q := 1) B dX7_isWeight_0 rfl 0 rfl ?_
  refine g_iconst (q := 2) B dX7_isWeight_1 rfl ?_
  refine g_icmp_lt (t := 15) (q := 5) B dX7_isWeight_2 (by decide) rfl ⟨by omega, by omega⟩ ⟨by omega, by omega⟩ (fun cq2 => ?_) (fun cq2 => ?_)
  · refine g_iconst (q := 16) B dX7_isWeight_15 rfl ?_
    refine g_zret B E dX7_isWeight_16 rfl (by decide) ?_
    exact ⟨zf (by omega), rfl⟩
  · refine g_iload_n (q := 6) B dX7_isWeight_5 rfl 0 rfl ?_
    refine g_bipush (q := 8) B dX7_isWeight_6 rfl (by decide) ?_
    refine g_icmp_gt (t := 15) (q := 11) B dX7_isWeight_8 (by decide) rfl ⟨by omega, by omega⟩ ⟨by omega, by omega⟩ (fun cq8 => ?_) (fun cq8 => ?_)
    · refine g_iconst (q := 16) B dX7_isWeight_15 rfl ?_
      refine g_zret B E dX7_isWeight_16 rfl (by decide) ?_
      exact ⟨zf (by omega), rfl⟩
    · refine g_iconst (q := 12) B dX7_isWeight_11 rfl ?_
      refine g_goto (q := 16) B dX7_isWeight_12 (by decide) ?_
      refine g_zret B E dX7_isWeight_16 rfl (by decide) ?_
      exact ⟨zt (by omega), rfl⟩
set_option maxHeartbeats 4000000 in
theorem c_X7_isOwner {Y : gY} {l : Launch} {S : SS} (x : Int) (hx : rI x) : gM Y l mX7_isOwner S [.int (iI x)] (pV (.int (bI (x = -1 ∨ x = 0 ∨ x = 1))) (fun S' => S' = S)) := by
  refine gM_of (by decide) (Nat.le_of_ble_eq_true rfl) ?_
  intro X hXl B E
  obtain ⟨hx0, hx1⟩ := hx
  show gW Y X S 0 [(0, .int (iI x))] []
  refine g_iload_n (q := 1) B dX7_isOwner_0 rfl 0 rfl ?_
  refine g_iconst (q := 2) B dX7_isOwner_1 rfl ?_
  refine g_icmp_eq (t := 12) (q := 5) B dX7_isOwner_2 (by decide) rfl ⟨by omega, by omega⟩ ⟨by omega, by omega⟩ (fun cq2 => ?_) (fun cq2 => ?_)
  · refine g_iconst (q := 13) B dX7_isOwner_12 rfl ?_
    refine g_goto (q := 17) B dX7_isOwner_13 (by decide) ?_
    refine g_zret B E dX7_isOwner_17 rfl (by decide) ?_
    exact ⟨zt (by omega), rfl⟩
  · refine g_iload_n (q := 6) B dX7_isOwner_5 rfl 0 rfl ?_
    refine g_callS (q := 9) (As := [.int (iI x)]) (st := []) B dX7_isOwner_6 rfl (c_X7_isSister (l := xL X) (S := S) x ⟨by omega, by omega⟩) eX7_isSister w452 (by decide) rfl rfl (Nat.le_of_ble_eq_true rfl) (g_kE ?_)
    refine g_ifb_eq (t := 16) (q := 12) B dX7_isOwner_9 (by decide) rfl (fun cq9 => ?_) (fun cq9 => ?_)
    · refine g_iconst (q := 17) B dX7_isOwner_16 rfl ?_
      refine g_zret B E dX7_isOwner_17 rfl (by decide) ?_
      exact ⟨zf (by omega), rfl⟩
    · refine g_iconst (q := 13) B dX7_isOwner_12 rfl ?_
      refine g_goto (q := 17) B dX7_isOwner_13 (by decide) ?_
      refine g_zret B E dX7_isOwner_17 rfl (by decide) ?_
      exact ⟨zt (by omega), rfl⟩
set_option maxHeartbeats 4000000 in
theorem c_X7_ownerFor {Y : gY} {l : Launch} {S : SS} (x : Int) (hx : rI x) : gM Y l mX7_ownerFor S [.int (iI x)] (pV (.int (iI (if x = 2 then -1 else x))) (fun S' => S' = S)) := by
  refine gM_of (by decide) (Nat.le_of_ble_eq_true rfl) ?_
  intro X hXl B E
  obtain ⟨hx0, hx1⟩ := hx
  show gW Y X S 0 [(0, .int (iI x))] []
  refine g_iload_n (q := 1) B dX7_ownerFor_0 rfl 0 rfl ?_
  refine g_iconst (q := 2) B dX7_ownerFor_1 rfl ?_
  refine g_icmp_ne (t := 9) (q := 5) B dX7_ownerFor_2 (by decide) rfl ⟨by omega, by omega⟩ ⟨by omega, by omega⟩ (fun cq2 => ?_) (fun cq2 => ?_)
  · refine g_iload_n (q := 10) B dX7_ownerFor_9 rfl 0 rfl ?_
    refine g_iret B E dX7_ownerFor_10 ?_
    exact ⟨by rw [if_neg cq2], rfl⟩
  · refine g_iconst (q := 6) B dX7_ownerFor_5 rfl ?_
    refine g_goto (q := 10) B dX7_ownerFor_6 (by decide) ?_
    refine g_iret B E dX7_ownerFor_10 ?_
    exact ⟨by rw [if_pos cq2], rfl⟩
set_option maxHeartbeats 4000000 in
theorem c_X2_kindOf {Y : gY} {l : Launch} {S : SS} {i : Nat} (hi : i < 18) (j : Int) (h0 : 0 ≤ j) (h1 : j < 16) : gM Y l mX2_kindOf S [.ref (yA Y (4 * i)), .int (iI j)] (pV (.int (iI (S (4 * i + 1) j))) (fun S' => S' = S)) := by
  refine gM_of (by decide) (Nat.le_of_ble_eq_true rfl) ?_
  intro X hXl B E
  show gW Y X S 0 [(0, .ref (yA Y (4 * i))), (1, .int (iI j))] []
  refine g_iload_n (q := 1) B dX2_kindOf_0 rfl 1 rfl ?_
  refine g_if_lt (t := 22) (q := 4) B dX2_kindOf_1 (by decide) rfl ⟨by omega, by omega⟩ (fun cq1 => ?_) (fun cq1 => ?_)
  · exact absurd cq1 (by omega)
  · refine g_iload_n (q := 5) B dX2_kindOf_4 rfl 1 rfl ?_
    refine g_aload_n (q := 6) B dX2_kindOf_5 rfl 0 rfl ?_
    refine g_get (n := (4 * i)) (ty := tyX2) (q := 9) (v := .ref (yA Y (4 * i + 1))) B dX2_kindOf_6 rfl rfl (cw_N hi (S ((4 * i)))) cls2 6 (by decide) w78 rfl ?_
    refine g_alen (n := (4 * i + 1)) (q := 10) B dX2_kindOf_9 rfl rfl (cw_R hi 1 (by decide) (S ((4 * i + 1)))) 0 rfl (z := 16) rfl ?_
    refine g_icmp_ge (t := 22) (q := 13) B dX2_kindOf_10 (by decide) rfl ⟨by omega, by omega⟩ ⟨by omega, by omega⟩ (fun cq10 => ?_) (fun cq10 => ?_)
    · exact absurd cq10 (by omega)
    · refine g_aload_n (q := 14) B dX2_kindOf_13 rfl 0 rfl ?_
      refine g_get (n := (4 * i)) (ty := tyX2) (q := 17) (v := .ref (yA Y (4 * i + 1))) B dX2_kindOf_14 rfl rfl (cw_N hi (S ((4 * i)))) cls2 6 (by decide) w78 rfl ?_
      refine g_iload_n (q := 18) B dX2_kindOf_17 rfl 1 rfl ?_
      refine g_iald (n := (4 * i + 1)) (q := 19) B dX2_kindOf_18 rfl rfl (cw_R hi 1 (by decide) (S ((4 * i + 1)))) (by decide) (by omega) (by omega) ?_
      refine g_goto (q := 23) B dX2_kindOf_19 (by decide) ?_
      refine g_iret B E dX2_kindOf_23 ?_
      exact ⟨rfl, rfl⟩
set_option maxHeartbeats 4000000 in
theorem c_X2_weightOf {Y : gY} {l : Launch} {S : SS} {i : Nat} (hi : i < 18) (j : Int) (h0 : 0 ≤ j) (h1 : j < 16) : gM Y l mX2_weightOf S [.ref (yA Y (4 * i)), .int (iI j)] (pV (.int (iI (S (4 * i + 2) j))) (fun S' => S' = S)) := by
  refine gM_of (by decide) (Nat.le_of_ble_eq_true rfl) ?_
  intro X hXl B E
  show gW Y X S 0 [(0, .ref (yA Y (4 * i))), (1, .int (iI j))] []
  refine g_iload_n (q := 1) B dX2_weightOf_0 rfl 1 rfl ?_
  refine g_if_lt (t := 22) (q := 4) B dX2_weightOf_1 (by decide) rfl ⟨by omega, by omega⟩ (fun cq1 => ?_) (fun cq1 => ?_)
  · exact absurd cq1 (by omega)
  · refine g_iload_n (q := 5) B dX2_weightOf_4 rfl 1 rfl ?_
    refine g_aload_n (q := 6) B dX2_weightOf_5 rfl 0 rfl ?_
    refine g_get (n := (4 * i)) (ty := tyX2) (q := 9) (v := .ref (yA Y (4 * i + 2))) B dX2_weightOf_6 rfl rfl (cw_N hi (S ((4 * i)))) cls2 7 (by decide) w79 rfl ?_
    refine g_alen (n := (4 * i + 2)) (q := 10) B dX2_weightOf_9 rfl rfl (cw_R hi 2 (by decide) (S ((4 * i + 2)))) 0 rfl (z := 16) rfl ?_
    refine g_icmp_ge (t := 22) (q := 13) B dX2_weightOf_10 (by decide) rfl ⟨by omega, by omega⟩ ⟨by omega, by omega⟩ (fun cq10 => ?_) (fun cq10 => ?_)
    · exact absurd cq10 (by omega)
    · refine g_aload_n (q := 14) B dX2_weightOf_13 rfl 0 rfl ?_
      refine g_get (n := (4 * i)) (ty := tyX2) (q := 17) (v := .ref (yA Y (4 * i + 2))) B dX2_weightOf_14 rfl rfl (cw_N hi (S ((4 * i)))) cls2 7 (by decide) w79 rfl ?_
      refine g_iload_n (q := 18) B dX2_weightOf_17 rfl 1 rfl ?_
      refine g_iald (n := (4 * i + 2)) (q := 19) B dX2_weightOf_18 rfl rfl (cw_R hi 2 (by decide) (S ((4 * i + 2)))) (by decide) (by omega) (by omega) ?_
      refine g_goto (q := 23) B dX2_weightOf_19 (by decide) ?_
      refine g_iret B E dX2_weightOf_23 ?_
      exact ⟨rfl, rfl⟩
set_option maxHeartbeats 4000000 in
theorem c_X2_ownerAt {Y : gY} {l : Launch} {S : SS} {i : Nat} (hi : i < 18) (j : Int) (h0 : 0 ≤ j) (h1 : j < 16) : gM Y l mX2_ownerAt S [.ref (yA Y (4 * i)), .int (iI j)] (pV (.int (iI (S (4 * i + 3) j))) (fun S' => S' = S)) := by
  refine gM_of (by decide) (Nat.le_of_ble_eq_true rfl) ?_
  intro X hXl B E
  show gW Y X S 0 [(0, .ref (yA Y (4 * i))), (1, .int (iI j))] []
  refine g_iload_n (q := 1) B dX2_ownerAt_0 rfl 1 rfl ?_
  refine g_if_lt (t := 22) (q := 4) B dX2_ownerAt_1 (by decide) rfl ⟨by omega, by omega⟩ (fun cq1 => ?_) (fun cq1 => ?_)
  · exact absurd cq1 (by omega)
  · refine g_iload_n (q := 5) B dX2_ownerAt_4 rfl 1 rfl ?_
    refine g_aload_n (q := 6) B dX2_ownerAt_5 rfl 0 rfl ?_
    refine g_get (n := (4 * i)) (ty := tyX2) (q := 9) (v := .ref (yA Y (4 * i + 3))) B dX2_ownerAt_6 rfl rfl (cw_N hi (S ((4 * i)))) cls2 8 (by decide) w80 rfl ?_
    refine g_alen (n := (4 * i + 3)) (q := 10) B dX2_ownerAt_9 rfl rfl (cw_R hi 3 (by decide) (S ((4 * i + 3)))) 0 rfl (z := 16) rfl ?_
    refine g_icmp_ge (t := 22) (q := 13) B dX2_ownerAt_10 (by decide) rfl ⟨by omega, by omega⟩ ⟨by omega, by omega⟩ (fun cq10 => ?_) (fun cq10 => ?_)
    · exact absurd cq10 (by omega)
    · refine g_aload_n (q := 14) B dX2_ownerAt_13 rfl 0 rfl ?_
      refine g_get (n := (4 * i)) (ty := tyX2) (q := 17) (v := .ref (yA Y (4 * i + 3))) B dX2_ownerAt_14 rfl rfl (cw_N hi (S ((4 * i)))) cls2 8 (by decide) w80 rfl ?_
      refine g_iload_n (q := 18) B dX2_ownerAt_17 rfl 1 rfl ?_
      refine g_iald (n := (4 * i + 3)) (q := 19) B dX2_ownerAt_18 rfl rfl (cw_R hi 3 (by decide) (S ((4 * i + 3)))) (by decide) (by omega) (by omega) ?_
      refine g_goto (q := 23) B dX2_ownerAt_19 (by decide) ?_
      refine g_iret B E dX2_ownerAt_23 ?_
      exact ⟨rfl, rfl⟩
set_option maxHeartbeats 4000000 in
theorem c_X2_putJewel {Y : gY} {l : Launch} {S : SS} {i : Nat} (hi : i < 18) (j k w : Int) (h0 : 0 ≤ j) (h1 : j < 16) : gM Y l mX2_putJewel S [.ref (yA Y (4 * i)), .int (iI j), .int (iI k), .int (iI w)] (p0 (fun S' => vw S' i = uq (uq (vw S i) (6 + j) k) (22 + j) w ∧ fr S S' i)) := by
  refine gM_of (by decide) (Nat.le_of_ble_eq_true rfl) ?_
  intro X hXl B E
  show gW Y X S 0 [(0, .ref (yA Y (4 * i))), (1, .int (iI j)), (2, .int (iI k)), (3, .int (iI w))] []
  refine g_iload_n (q := 1) B dX2_putJewel_0 rfl 1 rfl ?_
  refine g_if_lt (t := 36) (q := 4) B dX2_putJewel_1 (by decide) rfl ⟨by omega, by omega⟩ (fun cq1 => ?_) (fun cq1 => ?_)
  · exact absurd cq1 (by omega)
  · refine g_iload_n (q := 5) B dX2_putJewel_4 rfl 1 rfl ?_
    refine g_aload_n (q := 6) B dX2_putJewel_5 rfl 0 rfl ?_
    refine g_get (n := (4 * i)) (ty := tyX2) (q := 9) (v := .ref (yA Y (4 * i + 1))) B dX2_putJewel_6 rfl rfl (cw_N hi (S ((4 * i)))) cls2 6 (by decide) w78 rfl ?_
    refine g_alen (n := (4 * i + 1)) (q := 10) B dX2_putJewel_9 rfl rfl (cw_R hi 1 (by decide) (S ((4 * i + 1)))) 0 rfl (z := 16) rfl ?_
    refine g_icmp_ge (t := 36) (q := 13) B dX2_putJewel_10 (by decide) rfl ⟨by omega, by omega⟩ ⟨by omega, by omega⟩ (fun cq10 => ?_) (fun cq10 => ?_)
    · exact absurd cq10 (by omega)
    · refine g_iload_n (q := 14) B dX2_putJewel_13 rfl 1 rfl ?_
      refine g_aload_n (q := 15) B dX2_putJewel_14 rfl 0 rfl ?_
      refine g_get (n := (4 * i)) (ty := tyX2) (q := 18) (v := .ref (yA Y (4 * i + 2))) B dX2_putJewel_15 rfl rfl (cw_N hi (S ((4 * i)))) cls2 7 (by decide) w79 rfl ?_
      refine g_alen (n := (4 * i + 2)) (q := 19) B dX2_putJewel_18 rfl rfl (cw_R hi 2 (by decide) (S ((4 * i + 2)))) 0 rfl (z := 16) rfl ?_
      refine g_icmp_ge (t := 36) (q := 22) B dX2_putJewel_19 (by decide) rfl ⟨by omega, by omega⟩ ⟨by omega, by omega⟩ (fun cq19 => ?_) (fun cq19 => ?_)
      · exact absurd cq19 (by omega)
      · refine g_aload_n (q := 23) B dX2_putJewel_22 rfl 0 rfl ?_
        refine g_get (n := (4 * i)) (ty := tyX2) (q := 26) (v := .ref (yA Y (4 * i + 1))) B dX2_putJewel_23 rfl rfl (cw_N hi (S ((4 * i)))) cls2 6 (by decide) w78 rfl ?_
        refine g_iload_n (q := 27) B dX2_putJewel_26 rfl 1 rfl ?_
        refine g_iload_n (q := 28) B dX2_putJewel_27 rfl 2 rfl ?_
        refine g_iast (n := (4 * i + 1)) (q := 29) B dX2_putJewel_28 rfl rfl (fun g => cw_R hi 1 (by decide) g) (by decide) (by omega) (by omega) ?_
        refine g_aload_n (q := 30) B dX2_putJewel_29 rfl 0 rfl ?_
        refine g_get (n := (4 * i)) (ty := tyX2) (q := 33) (v := .ref (yA Y (4 * i + 2))) B dX2_putJewel_30 rfl ((us_ne _ _ (by omega)).trans rfl) (cw_N hi (S ((4 * i)))) cls2 7 (by decide) w79 rfl ?_
        refine g_iload_n (q := 34) B dX2_putJewel_33 rfl 1 rfl ?_
        refine g_iload_n (q := 35) B dX2_putJewel_34 rfl 3 rfl ?_
        refine g_iast (n := (4 * i + 2)) (q := 36) B dX2_putJewel_35 rfl ((us_ne _ _ (by omega)).trans rfl) (fun g => cw_R hi 2 (by decide) g) (by decide) (by omega) (by omega) ?_
        refine g_vret B E dX2_putJewel_36 ?_
        refine ⟨rfl, ?_, (fr_us 1 (by decide)).tr (fr_us 2 (by decide))⟩
        have e := vw_us2 (us S (4 * i + 1) (uq (S (4 * i + 1)) j k)) i (x := w) h0 h1
        rw [us_a (show 4 * i + 2 ≠ 4 * i + 1 by omega)] at e
        rw [e, vw_us1 S i h0 h1]
set_option maxHeartbeats 4000000 in
theorem c_X2_putOwner {Y : gY} {l : Launch} {S : SS} {i : Nat} (hi : i < 18) (p o : Int) (h0 : 0 ≤ p) (h1 : p < 16) : gM Y l mX2_putOwner S [.ref (yA Y (4 * i)), .int (iI p), .int (iI o)] (p0 (fun S' => vw S' i = uq (vw S i) (38 + p) o ∧ fr S S' i)) := by
  refine gM_of (by decide) (Nat.le_of_ble_eq_true rfl) ?_
  intro X hXl B E
  show gW Y X S 0 [(0, .ref (yA Y (4 * i))), (1, .int (iI p)), (2, .int (iI o))] []
  refine g_iload_n (q := 1) B dX2_putOwner_0 rfl 1 rfl ?_
  refine g_if_lt (t := 20) (q := 4) B dX2_putOwner_1 (by decide) rfl ⟨by omega, by omega⟩ (fun cq1 => ?_) (fun cq1 => ?_)
  · exact absurd cq1 (by omega)
  · refine g_iload_n (q := 5) B dX2_putOwner_4 rfl 1 rfl ?_
    refine g_aload_n (q := 6) B dX2_putOwner_5 rfl 0 rfl ?_
    refine g_get (n := (4 * i)) (ty := tyX2) (q := 9) (v := .ref (yA Y (4 * i + 3))) B dX2_putOwner_6 rfl rfl (cw_N hi (S ((4 * i)))) cls2 8 (by decide) w80 rfl ?_
    refine g_alen (n := (4 * i + 3)) (q := 10) B dX2_putOwner_9 rfl rfl (cw_R hi 3 (by decide) (S ((4 * i + 3)))) 0 rfl (z := 16) rfl ?_
    refine g_icmp_ge (t := 20) (q := 13) B dX2_putOwner_10 (by decide) rfl ⟨by omega, by omega⟩ ⟨by omega, by omega⟩ (fun cq10 => ?_) (fun cq10 => ?_)
    · exact absurd cq10 (by omega)
    · refine g_aload_n (q := 14) B dX2_putOwner_13 rfl 0 rfl ?_
      refine g_get (n := (4 * i)) (ty := tyX2) (q := 17) (v := .ref (yA Y (4 * i + 3))) B dX2_putOwner_14 rfl rfl (cw_N hi (S ((4 * i)))) cls2 8 (by decide) w80 rfl ?_
      refine g_iload_n (q := 18) B dX2_putOwner_17 rfl 1 rfl ?_
      refine g_iload_n (q := 19) B dX2_putOwner_18 rfl 2 rfl ?_
      refine g_iast (n := (4 * i + 3)) (q := 20) B dX2_putOwner_19 rfl rfl (fun g => cw_R hi 3 (by decide) g) (by decide) (by omega) (by omega) ?_
      refine g_vret B E dX2_putOwner_20 ?_
      exact ⟨rfl, vw_us3 S i h0 h1, fr_us 3 (by decide)⟩
set_option maxHeartbeats 4000000 in
theorem c_X2_hasJewel {Y : gY} {l : Launch} {S : SS} {i : Nat} (hi : i < 18) (hw : wf (vw S i)) (j : Int) (hj : rI j) : gM Y l mX2_hasJewel S [.ref (yA Y (4 * i)), .int (iI j)] (pV (.int (bI (0 ≤ j ∧ j < S (4 * i) 0))) (fun S' => S' = S)) := by
  refine gM_of (by decide) (Nat.le_of_ble_eq_true rfl) ?_
  intro X hXl B E
  obtain ⟨⟨hn0, hn16⟩, ⟨hb0, hb1⟩, ⟨hm0, hm1⟩, ⟨hs0, hs1⟩, ⟨hc0, hc1⟩, hct, hkw, how, hun⟩ := wfS hw
  obtain ⟨hj0, hj1⟩ := hj
  show gW Y X S 0 [(0, .ref (yA Y (4 * i))), (1, .int (iI j))] []
  refine g_iload_n (q := 1) B dX2_hasJewel_0 rfl 1 rfl ?_
  refine g_if_lt (t := 16) (q := 4) B dX2_hasJewel_1 (by decide) rfl ⟨by omega, by omega⟩ (fun cq1 => ?_) (fun cq1 => ?_)
  · refine g_iconst (q := 17) B dX2_hasJewel_16 rfl ?_
    refine g_zret B E dX2_hasJewel_17 rfl (by decide) ?_
    exact ⟨zf (by omega), rfl⟩
  · refine g_iload_n (q := 5) B dX2_hasJewel_4 rfl 1 rfl ?_
    refine g_aload_n (q := 6) B dX2_hasJewel_5 rfl 0 rfl ?_
    refine g_get (n := (4 * i)) (ty := tyX2) (q := 9) (v := .int (iI (S ((4 * i)) 0))) B dX2_hasJewel_6 rfl rfl (cw_N hi (S ((4 * i)))) cls2 0 (by decide) w65 rfl ?_
    refine g_icmp_ge (t := 16) (q := 12) B dX2_hasJewel_9 (by decide) rfl ⟨by omega, by omega⟩ ⟨by omega, by omega⟩ (fun cq9 => ?_) (fun cq9 => ?_)
    · refine g_iconst (q := 17) B dX2_hasJewel_16 rfl ?_
      refine g_zret B E dX2_hasJewel_17 rfl (by decide) ?_
      exact ⟨zf (by omega), rfl⟩
    · refine g_iconst (q := 13) B dX2_hasJewel_12 rfl ?_
      refine g_goto (q := 17) B dX2_hasJewel_13 (by decide) ?_
      refine g_zret B E dX2_hasJewel_17 rfl (by decide) ?_
      exact ⟨zt (by omega), rfl⟩
set_option maxHeartbeats 4000000 in
theorem c_X2_hasPlace {Y : gY} {l : Launch} {S : SS} {i : Nat} (hi : i < 18) (hw : wf (vw S i)) (j : Int) (hj : rI j) : gM Y l mX2_hasPlace S [.ref (yA Y (4 * i)), .int (iI j)] (pV (.int (bI (0 ≤ j ∧ j < S (4 * i) 0))) (fun S' => S' = S)) := by
  refine gM_of (by decide) (Nat.le_of_ble_eq_true rfl) ?_
  intro X hXl B E
  obtain ⟨⟨hn0, hn16⟩, ⟨hb0, hb1⟩, ⟨hm0, hm1⟩, ⟨hs0, hs1⟩, ⟨hc0, hc1⟩, hct, hkw, how, hun⟩ := wfS hw
  obtain ⟨hj0, hj1⟩ := hj
  show gW Y X S 0 [(0, .ref (yA Y (4 * i))), (1, .int (iI j))] []
  refine g_iload_n (q := 1) B dX2_hasPlace_0 rfl 1 rfl ?_
  refine g_if_lt (t := 16) (q := 4) B dX2_hasPlace_1 (by decide) rfl ⟨by omega, by omega⟩ (fun cq1 => ?_) (fun cq1 => ?_)
  · refine g_iconst (q := 17) B dX2_hasPlace_16 rfl ?_
    refine g_zret B E dX2_hasPlace_17 rfl (by decide) ?_
    exact ⟨zf (by omega), rfl⟩
  · refine g_iload_n (q := 5) B dX2_hasPlace_4 rfl 1 rfl ?_
    refine g_aload_n (q := 6) B dX2_hasPlace_5 rfl 0 rfl ?_
    refine g_get (n := (4 * i)) (ty := tyX2) (q := 9) (v := .int (iI (S ((4 * i)) 0))) B dX2_hasPlace_6 rfl rfl (cw_N hi (S ((4 * i)))) cls2 0 (by decide) w65 rfl ?_
    refine g_icmp_ge (t := 16) (q := 12) B dX2_hasPlace_9 (by decide) rfl ⟨by omega, by omega⟩ ⟨by omega, by omega⟩ (fun cq9 => ?_) (fun cq9 => ?_)
    · refine g_iconst (q := 17) B dX2_hasPlace_16 rfl ?_
      refine g_zret B E dX2_hasPlace_17 rfl (by decide) ?_
      exact ⟨zf (by omega), rfl⟩
    · refine g_iconst (q := 13) B dX2_hasPlace_12 rfl ?_
      refine g_goto (q := 17) B dX2_hasPlace_13 (by decide) ?_
      refine g_zret B E dX2_hasPlace_17 rfl (by decide) ?_
      exact ⟨zt (by omega), rfl⟩
set_option maxHeartbeats 4000000 in
theorem c_X2_canBeCutAt {Y : gY} {l : Launch} {S : SS} {i : Nat} (hi : i < 18) (hw : wf (vw S i)) (j : Int) (hj : rI j) : gM Y l mX2_canBeCutAt S [.ref (yA Y (4 * i)), .int (iI j)] (pV (.int (bI (1 ≤ j ∧ j < S (4 * i) 0))) (fun S' => S' = S)) := by
  refine gM_of (by decide) (Nat.le_of_ble_eq_true rfl) ?_
  intro X hXl B E
  obtain ⟨⟨hn0, hn16⟩, ⟨hb0, hb1⟩, ⟨hm0, hm1⟩, ⟨hs0, hs1⟩, ⟨hc0, hc1⟩, hct, hkw, how, hun⟩ := wfS hw
  obtain ⟨hj0, hj1⟩ := hj
  show gW Y X S 0 [(0, .ref (yA Y (4 * i))), (1, .int (iI j))] []
  refine g_iload_n (q := 1) B dX2_canBeCutAt_0 rfl 1 rfl ?_
  refine g_iconst (q := 2) B dX2_canBeCutAt_1 rfl ?_
  refine g_icmp_lt (t := 17) (q := 5) B dX2_canBeCutAt_2 (by decide) rfl ⟨by omega, by omega⟩ ⟨by omega, by omega⟩ (fun cq2 => ?_) (fun cq2 => ?_)
  · refine g_iconst (q := 18) B dX2_canBeCutAt_17 rfl ?_
    refine g_zret B E dX2_canBeCutAt_18 rfl (by decide) ?_
    exact ⟨zf (by omega), rfl⟩
  · refine g_iload_n (q := 6) B dX2_canBeCutAt_5 rfl 1 rfl ?_
    refine g_aload_n (q := 7) B dX2_canBeCutAt_6 rfl 0 rfl ?_
    refine g_get (n := (4 * i)) (ty := tyX2) (q := 10) (v := .int (iI (S ((4 * i)) 0))) B dX2_canBeCutAt_7 rfl rfl (cw_N hi (S ((4 * i)))) cls2 0 (by decide) w65 rfl ?_
    refine g_icmp_ge (t := 17) (q := 13) B dX2_canBeCutAt_10 (by decide) rfl ⟨by omega, by omega⟩ ⟨by omega, by omega⟩ (fun cq10 => ?_) (fun cq10 => ?_)
    · refine g_iconst (q := 18) B dX2_canBeCutAt_17 rfl ?_
      refine g_zret B E dX2_canBeCutAt_18 rfl (by decide) ?_
      exact ⟨zf (by omega), rfl⟩
    · refine g_iconst (q := 14) B dX2_canBeCutAt_13 rfl ?_
      refine g_goto (q := 18) B dX2_canBeCutAt_14 (by decide) ?_
      refine g_zret B E dX2_canBeCutAt_18 rfl (by decide) ?_
      exact ⟨zt (by omega), rfl⟩
set_option maxHeartbeats 4000000 in
theorem c_X2_valueOf {Y : gY} {l : Launch} {S : SS} {i : Nat} (hi : i < 18) (hw : wf (vw S i)) (j : Int) (h0 : 0 ≤ j) (h1 : j < S (4 * i) 0) : gM Y l mX2_valueOf S [.ref (yA Y (4 * i)), .int (iI j)] (pV (.int (iI (valF (vw S i) j))) (fun S' => S' = S)) := by
  refine gM_of (by decide) (Nat.le_of_ble_eq_true rfl) ?_
  intro X hXl B E
  obtain ⟨⟨hn0, hn16⟩, ⟨hb0, hb1⟩, ⟨hm0, hm1⟩, ⟨hs0, hs1⟩, ⟨hc0, hc1⟩, hct, hkw, how, hun⟩ := wfS hw
  show gW Y X S 0 [(0, .ref (yA Y (4 * i))), (1, .int (iI j))] []
  refine g_aload_n (q := 1) B dX2_valueOf_0 rfl 0 rfl ?_
  refine g_get (n := (4 * i)) (ty := tyX2) (q := 4) (v := .int (iI (S ((4 * i)) 4))) B dX2_valueOf_1 rfl rfl (cw_N hi (S ((4 * i)))) cls2 4 (by decide) w75 rfl ?_
  refine g_if_ne (t := 11) (q := 7) B dX2_valueOf_4 (by decide) rfl ⟨by omega, by omega⟩ (fun cq4 => ?_) (fun cq4 => ?_)
  · refine g_aload_n (q := 12) B dX2_valueOf_11 rfl 0 rfl ?_
    refine g_iload_n (q := 13) B dX2_valueOf_12 rfl 1 rfl ?_
    refine g_callV (n := (4 * i)) (ty := tyX2) (q := 16) (As := [.int (iI j)]) (st := []) B dX2_valueOf_13 rfl (c_X2_weightOf (l := xL X) (S := S) hi j (by omega) (by omega)) eX2_weightOf w495 (by decide) rfl (cw_N hi (S ((4 * i)))) cls2 rfl rfl (Nat.le_of_ble_eq_true rfl) (g_kE ?_)
    refine g_iret B E dX2_valueOf_16 ?_
    exact ⟨by rw [valF_vw S i h0 (by omega), if_neg cq4], rfl⟩
  · refine g_iconst (q := 8) B dX2_valueOf_7 rfl ?_
    refine g_goto (q := 16) B dX2_valueOf_8 (by decide) ?_
    refine g_iret B E dX2_valueOf_16 ?_
    exact ⟨by rw [valF_vw S i h0 (by omega), if_pos cq4], rfl⟩
set_option maxHeartbeats 4000000 in
theorem c_X2_jewelAt {Y : gY} {l : Launch} {S : SS} {i : Nat} (hi : i < 18) (hw : wf (vw S i)) (p : Int) (h0 : 0 ≤ p) (h1 : p < S (4 * i) 0) : gM Y l mX2_jewelAt S [.ref (yA Y (4 * i)), .int (iI p)] (pV (.int (iI (jatF (vw S i) p))) (fun S' => S' = S)) := by
  refine gM_of (by decide) (Nat.le_of_ble_eq_true rfl) ?_
  intro X hXl B E
  obtain ⟨⟨hn0, hn16⟩, ⟨hb0, hb1⟩, ⟨hm0, hm1⟩, ⟨hs0, hs1⟩, ⟨hc0, hc1⟩, hct, hkw, how, hun⟩ := wfS hw
  show gW Y X S 0 [(0, .ref (yA Y (4 * i))), (1, .int (iI p))] []
  refine g_aload_n (q := 1) B dX2_jewelAt_0 rfl 0 rfl ?_
  refine g_get (n := (4 * i)) (ty := tyX2) (q := 4) (v := .int (iI (S ((4 * i)) 1))) B dX2_jewelAt_1 rfl rfl (cw_N hi (S ((4 * i)))) cls2 1 (by decide) w68 rfl ?_
  refine g_iload_n (q := 5) B dX2_jewelAt_4 rfl 1 rfl ?_
  refine g_iadd (q := 6) B dX2_jewelAt_5 rfl ?_
  refine g_istore_n (q := 7) B dX2_jewelAt_6 rfl (by decide) (L' := [(2, .int (iI ((S ((4 * i)) 1) + p))), (0, .ref (yA Y (4 * i))), (1, .int (iI p))]) rfl ?_
  refine g_iload_n (q := 8) B dX2_jewelAt_7 rfl 0 rfl ?_
  refine g_aload_n (q := 9) B dX2_jewelAt_8 rfl 1 rfl ?_
  refine g_get (n := (4 * i)) (ty := tyX2) (q := 12) (v := .int (iI (S ((4 * i)) 0))) B dX2_jewelAt_9 rfl rfl (cw_N hi (S ((4 * i)))) cls2 0 (by decide) w65 rfl ?_
  refine g_icmp_ge (t := 19) (q := 15) B dX2_jewelAt_12 (by decide) rfl ⟨by omega, by omega⟩ ⟨by omega, by omega⟩ (fun cq12 => ?_) (fun cq12 => ?_)
  · refine g_iload_n (q := 20) B dX2_jewelAt_19 rfl 0 rfl ?_
    refine g_aload_n (q := 21) B dX2_jewelAt_20 rfl 1 rfl ?_
    refine g_get (n := (4 * i)) (ty := tyX2) (q := 24) (v := .int (iI (S ((4 * i)) 0))) B dX2_jewelAt_21 rfl rfl (cw_N hi (S ((4 * i)))) cls2 0 (by decide) w65 rfl ?_
    refine g_isub (q := 25) B dX2_jewelAt_24 rfl ?_
    refine g_iret B E dX2_jewelAt_25 ?_
    exact ⟨by rw [jatF_hi (g := vw S i) (by rw [vw_1, vw_0]; omega) (by rw [vw_1, vw_0]; omega)]; rfl, rfl⟩
  · refine g_iload_n (q := 16) B dX2_jewelAt_15 rfl 0 rfl ?_
    refine g_goto (q := 25) B dX2_jewelAt_16 (by decide) ?_
    refine g_iret B E dX2_jewelAt_25 ?_
    exact ⟨by rw [jatF_lo (g := vw S i) (by rw [vw_1]; omega) (by rw [vw_1, vw_0]; omega)]; rfl, rfl⟩
set_option maxHeartbeats 4000000 in
theorem c_X2_placeWith {Y : gY} {l : Launch} {S : SS} {i : Nat} (hi : i < 18) (hw : wf (vw S i)) (j : Int) (h0 : 0 ≤ j) (h1 : j < S (4 * i) 0) : gM Y l mX2_placeWith S [.ref (yA Y (4 * i)), .int (iI j)] (pV (.int (iI ((j - S (4 * i) 1 + S (4 * i) 0) % S (4 * i) 0))) (fun S' => S' = S)) := by
  refine gM_of (by decide) (Nat.le_of_ble_eq_true rfl) ?_
  intro X hXl B E
  obtain ⟨⟨hn0, hn16⟩, ⟨hb0, hb1⟩, ⟨hm0, hm1⟩, ⟨hs0, hs1⟩, ⟨hc0, hc1⟩, hct, hkw, how, hun⟩ := wfS hw
  show gW Y X S 0 [(0, .ref (yA Y (4 * i))), (1, .int (iI j))] []
  refine g_iload_n (q := 1) B dX2_placeWith_0 rfl 1 rfl ?_
  refine g_aload_n (q := 2) B dX2_placeWith_1 rfl 0 rfl ?_
  refine g_get (n := (4 * i)) (ty := tyX2) (q := 5) (v := .int (iI (S ((4 * i)) 1))) B dX2_placeWith_2 rfl rfl (cw_N hi (S ((4 * i)))) cls2 1 (by decide) w68 rfl ?_
  refine g_isub (q := 6) B dX2_placeWith_5 rfl ?_
  refine g_istore_n (q := 7) B dX2_placeWith_6 rfl (by decide) (L' := [(2, .int (iI (j - (S ((4 * i)) 1)))), (0, .ref (yA Y (4 * i))), (1, .int (iI j))]) rfl ?_
  refine g_iload_n (q := 8) B dX2_placeWith_7 rfl 0 rfl ?_
  refine g_if_lt (t := 15) (q := 11) B dX2_placeWith_8 (by decide) rfl ⟨by omega, by omega⟩ (fun cq8 => ?_) (fun cq8 => ?_)
  · refine g_iload_n (q := 16) B dX2_placeWith_15 rfl 0 rfl ?_
    refine g_aload_n (q := 17) B dX2_placeWith_16 rfl 1 rfl ?_
    refine g_get (n := (4 * i)) (ty := tyX2) (q := 20) (v := .int (iI (S ((4 * i)) 0))) B dX2_placeWith_17 rfl rfl (cw_N hi (S ((4 * i)))) cls2 0 (by decide) w65 rfl ?_
    refine g_iadd (q := 21) B dX2_placeWith_20 rfl ?_
    refine g_iret B E dX2_placeWith_21 ?_
    exact ⟨by rw [Int.emod_eq_of_lt (by omega) (by omega)], rfl⟩
  · refine g_iload_n (q := 12) B dX2_placeWith_11 rfl 0 rfl ?_
    refine g_goto (q := 21) B dX2_placeWith_12 (by decide) ?_
    refine g_iret B E dX2_placeWith_21 ?_
    exact ⟨by rw [Int.add_emod_right, Int.emod_eq_of_lt (by omega) (by omega)], rfl⟩
set_option maxHeartbeats 4000000 in
theorem c_X2_isCut {Y : gY} {l : Launch} {S : SS} {i : Nat} (hi : i < 18) (hw : wf (vw S i)) (p : Int) (h0 : 0 ≤ p) (h1 : p < 16) : gM Y l mX2_isCut S [.ref (yA Y (4 * i)), .int (iI p)] (pV (.int (bI ((S (4 * i) 5).toNat.testBit p.toNat = true))) (fun S' => S' = S)) := by
  refine gM_of (by decide) (Nat.le_of_ble_eq_true rfl) ?_
  intro X hXl B E
  obtain ⟨⟨hn0, hn16⟩, ⟨hb0, hb1⟩, ⟨hm0, hm1⟩, ⟨hs0, hs1⟩, ⟨hc0, hc1⟩, hct, hkw, how, hun⟩ := wfS hw
  have hd : 0 ≤ S (4 * i) 5 / 2 ^ p.toNat ∧ S (4 * i) 5 / 2 ^ p.toNat ≤ S (4 * i) 5 := ⟨Int.ediv_nonneg hc0 (Int.le_of_lt (Int.pow_pos (by decide))), Int.ediv_le_self _ hc0⟩
  show gW Y X S 0 [(0, .ref (yA Y (4 * i))), (1, .int (iI p))] []
  refine g_aload_n (q := 1) B dX2_isCut_0 rfl 0 rfl ?_
  refine g_get (n := (4 * i)) (ty := tyX2) (q := 4) (v := .int (iI (S ((4 * i)) 5))) B dX2_isCut_1 rfl rfl (cw_N hi (S ((4 * i)))) cls2 5 (by decide) w77 rfl ?_
  refine g_iload_n (q := 5) B dX2_isCut_4 rfl 1 rfl ?_
  refine g_iushr (v := (iI (S (4 * i) 5 / 2 ^ p.toNat))) (q := 6) B dX2_isCut_5 rfl (iI_ushr (by omega) (by omega) (by omega) (by omega)) ?_
  refine g_iconst (q := 7) B dX2_isCut_6 rfl ?_
  refine g_iand (v := (iI (S (4 * i) 5 / 2 ^ p.toNat % 2))) (q := 8) B dX2_isCut_7 rfl (iI_and1 (by omega) (by omega)) ?_
  refine g_if_eq (t := 15) (q := 11) B dX2_isCut_8 (by decide) rfl ⟨by omega, by omega⟩ (fun cq8 => ?_) (fun cq8 => ?_)
  · refine g_iconst (q := 16) B dX2_isCut_15 rfl ?_
    refine g_zret B E dX2_isCut_16 rfl (by decide) ?_
    exact ⟨zf (by rw [← cut_bit hc0 h0]; omega), rfl⟩
  · refine g_iconst (q := 12) B dX2_isCut_11 rfl ?_
    refine g_goto (q := 16) B dX2_isCut_12 (by decide) ?_
    refine g_zret B E dX2_isCut_16 rfl (by decide) ?_
    exact ⟨zt (by rw [← cut_bit hc0 h0]; omega), rfl⟩
