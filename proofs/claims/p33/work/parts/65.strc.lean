set_option maxHeartbeats 4000000 in
theorem c_J0_isLatin1_aae02 {Y : gY} {l : Launch} {S : SS} (i : Nat) (hi : i < 6) : gM Y l mJ0_isLatin1_aae02 S [.ref (yK Y i)] (pV (.int (iI 1)) (fun S' => S' = S)) := by
  refine gM_of (by decide) (Nat.le_of_ble_eq_true rfl) ?_
  intro X hXl B E
  show gW Y X S 0 [(0, .ref (yK Y i))] []
  refine g_compact (q := 3) B dJ0_isLatin1_aae02_0 rfl w305 ?_
  refine g_if_eq (t := 17) (q := 6) B dJ0_isLatin1_aae02_3 (by decide) rfl ⟨by omega, by omega⟩ (fun cq3 => ?_) (fun cq3 => ?_)
  · exact absurd cq3 (by omega)
  · refine g_aload_n (q := 7) B dJ0_isLatin1_aae02_6 rfl 0 rfl ?_
    refine g_strK i hi (q := 10) B dJ0_isLatin1_aae02_7 rfl w950 ?_
    refine g_if_ne (t := 17) (q := 13) B dJ0_isLatin1_aae02_10 (by decide) rfl ⟨by omega, by omega⟩ (fun cq10 => ?_) (fun cq10 => ?_)
    · exact absurd cq10 (by omega)
    · refine g_iconst (q := 14) B dJ0_isLatin1_aae02_13 rfl ?_
      refine g_goto (q := 18) B dJ0_isLatin1_aae02_14 (by decide) ?_
      refine g_zret B E dJ0_isLatin1_aae02_18 rfl (by decide) ?_
      exact ⟨rfl, rfl⟩
set_option maxHeartbeats 4000000 in
theorem c_J0_coder_7d493 {Y : gY} {l : Launch} {S : SS} (i : Nat) (hi : i < 6) : gM Y l mJ0_coder_7d493 S [.ref (yK Y i)] (pV (.int (iI 0)) (fun S' => S' = S)) := by
  refine gM_of (by decide) (Nat.le_of_ble_eq_true rfl) ?_
  intro X hXl B E
  show gW Y X S 0 [(0, .ref (yK Y i))] []
  refine g_compact (q := 3) B dJ0_coder_7d493_0 rfl w305 ?_
  refine g_if_eq (t := 13) (q := 6) B dJ0_coder_7d493_3 (by decide) rfl ⟨by omega, by omega⟩ (fun cq3 => ?_) (fun cq3 => ?_)
  · exact absurd cq3 (by omega)
  · refine g_aload_n (q := 7) B dJ0_coder_7d493_6 rfl 0 rfl ?_
    refine g_strK i hi (q := 10) B dJ0_coder_7d493_7 rfl w950 ?_
    refine g_goto (q := 14) B dJ0_coder_7d493_10 (by decide) ?_
    refine g_zret B E dJ0_coder_7d493_14 rfl (by decide) ?_
    exact ⟨rfl, rfl⟩
set_option maxHeartbeats 4000000 in
theorem c_J0_length_8abf5 {Y : gY} {l : Launch} {S : SS} (i : Nat) (hi : i < 6) : gM Y l mJ0_length_8abf5 S [.ref (yK Y i)] (pV (.int (iI (((txL i : Nat) : Int)))) (fun S' => S' = S)) := by
  refine gM_of (by decide) (Nat.le_of_ble_eq_true rfl) ?_
  intro X hXl B E
  have h3 := txL_in i
  show gW Y X S 0 [(0, .ref (yK Y i))] []
  refine g_aload_n (q := 1) B dJ0_length_8abf5_0 rfl 0 rfl ?_
  refine g_strV i hi (q := 4) B dJ0_length_8abf5_1 rfl w949 ?_
  refine g_blen i hi (q := 5) B dJ0_length_8abf5_4 rfl ?_
  refine g_aload_n (q := 6) B dJ0_length_8abf5_5 rfl 0 rfl ?_
  refine g_callT i hi (q := 9) (As := []) (st := [.int (iI (((txL i : Nat) : Int)))]) B dJ0_length_8abf5_6 rfl (c_J0_coder_7d493 (l := xL X) (S := S) i hi ) eJ0_coder_7d493 w301 (by decide) rfl rfl (Nat.le_of_ble_eq_true rfl) (g_kE ?_)
  refine g_ishr (v := (iI (((txL i : Nat) : Int)))) (q := 10) B dJ0_length_8abf5_9 rfl ((iI_shr (p := 0) (by omega) (by omega) (by decide) (by decide)).trans (congrArg iI (by rw [show (2 : Int) ^ (0 : Int).toNat = 1 from rfl, Int.ediv_one]))) ?_
  refine g_iret B E dJ0_length_8abf5_10 ?_
  exact ⟨rfl, rfl⟩
set_option maxHeartbeats 4000000 in
theorem c_J3_null {Y : gY} {l : Launch} {S : SS} (a b : Int) (h0 : 0 ≤ a) (h1 : a < b) (h2 : b < 100) : gM Y l mJ3_checkIndex_8e157 S [.int (iI a), .int (iI b), .null] (pV (.int (iI a)) (fun S' => S' = S)) := by
  refine gM_of (by decide) (Nat.le_of_ble_eq_true rfl) ?_
  intro X hXl B E
  show gW Y X S 0 [(0, .int (iI a)), (1, .int (iI b)), (2, .null)] []
  refine g_iload_n (q := 1) B dJ3_checkIndex_8e157_0 rfl 0 rfl ?_
  refine g_if_lt (t := 9) (q := 4) B dJ3_checkIndex_8e157_1 (by decide) rfl ⟨by omega, by omega⟩ (fun cq1 => ?_) (fun cq1 => ?_)
  · exact absurd cq1 (by omega)
  · refine g_iload_n (q := 5) B dJ3_checkIndex_8e157_4 rfl 0 rfl ?_
    refine g_iload_n (q := 6) B dJ3_checkIndex_8e157_5 rfl 1 rfl ?_
    refine g_icmp_lt (t := 16) (q := 9) B dJ3_checkIndex_8e157_6 (by decide) rfl ⟨by omega, by omega⟩ ⟨by omega, by omega⟩ (fun cq6 => ?_) (fun cq6 => ?_)
    · refine g_iload_n (q := 17) B dJ3_checkIndex_8e157_16 rfl 0 rfl ?_
      refine g_iret B E dJ3_checkIndex_8e157_17 ?_
      exact ⟨rfl, rfl⟩
    · exact absurd cq6 (by omega)
set_option maxHeartbeats 4000000 in
theorem c_J3_ref (tq : Nat) {Y : gY} {l : Launch} {S : SS} (a b : Int) (h0 : 0 ≤ a) (h1 : a < b) (h2 : b < 100) : gM Y l mJ3_checkIndex_8e157 S [.int (iI a), .int (iI b), .ref tq] (pV (.int (iI a)) (fun S' => S' = S)) := by
  refine gM_of (by decide) (Nat.le_of_ble_eq_true rfl) ?_
  intro X hXl B E
  show gW Y X S 0 [(0, .int (iI a)), (1, .int (iI b)), (2, .ref tq)] []
  refine g_iload_n (q := 1) B dJ3_checkIndex_8e157_0 rfl 0 rfl ?_
  refine g_if_lt (t := 9) (q := 4) B dJ3_checkIndex_8e157_1 (by decide) rfl ⟨by omega, by omega⟩ (fun cq1 => ?_) (fun cq1 => ?_)
  · exact absurd cq1 (by omega)
  · refine g_iload_n (q := 5) B dJ3_checkIndex_8e157_4 rfl 0 rfl ?_
    refine g_iload_n (q := 6) B dJ3_checkIndex_8e157_5 rfl 1 rfl ?_
    refine g_icmp_lt (t := 16) (q := 9) B dJ3_checkIndex_8e157_6 (by decide) rfl ⟨by omega, by omega⟩ ⟨by omega, by omega⟩ (fun cq6 => ?_) (fun cq6 => ?_)
    · refine g_iload_n (q := 17) B dJ3_checkIndex_8e157_16 rfl 0 rfl ?_
      refine g_iret B E dJ3_checkIndex_8e157_17 ?_
      exact ⟨rfl, rfl⟩
    · exact absurd cq6 (by omega)
set_option maxHeartbeats 4000000 in
theorem c_J0_checkIndex_df160 {Y : gY} {l : Launch} {S : SS} (a b : Int) (h0 : 0 ≤ a) (h1 : a < b) (h2 : b < 100) : gM Y l mJ0_checkIndex_df160 S [.int (iI a), .int (iI b)] (p0 (fun S' => S' = S)) := by
  refine gM_of (by decide) (Nat.le_of_ble_eq_true rfl) ?_
  intro X hXl B E
  show gW Y X S 0 [(0, .int (iI a)), (1, .int (iI b))] []
  refine g_iload_n (q := 1) B dJ0_checkIndex_df160_0 rfl 0 rfl ?_
  refine g_iload_n (q := 2) B dJ0_checkIndex_df160_1 rfl 1 rfl ?_
  refine g_sioobe (q := 5) B dJ0_checkIndex_df160_2 rfl w329 ?_ (fun tq => ?_)
  · refine g_callS (q := 8) (As := [.int (iI a), .int (iI b), .null]) (st := []) B dJ0_checkIndex_df160_5 rfl (c_J3_null (l := xL X) (S := S) a b (by omega) (by omega) (by omega)) eJ3_checkIndex_8e157 w331 (by decide) rfl rfl (Nat.le_of_ble_eq_true rfl) (g_kE ?_)
    refine g_pop (q := 9) B dJ0_checkIndex_df160_8 rfl rfl ?_
    refine g_vret B E dJ0_checkIndex_df160_9 ?_
    exact ⟨rfl, rfl⟩
  · refine g_callS (q := 8) (As := [.int (iI a), .int (iI b), .ref tq]) (st := []) B dJ0_checkIndex_df160_5 rfl (c_J3_ref tq (l := xL X) (S := S) a b (by omega) (by omega) (by omega)) eJ3_checkIndex_8e157 w331 (by decide) rfl rfl (Nat.le_of_ble_eq_true rfl) (g_kE ?_)
    refine g_pop (q := 9) B dJ0_checkIndex_df160_8 rfl rfl ?_
    refine g_vret B E dJ0_checkIndex_df160_9 ?_
    exact ⟨rfl, rfl⟩
set_option maxHeartbeats 4000000 in
theorem c_J1_charAt_3b067 {Y : gY} {l : Launch} {S : SS} (i : Nat) (hi : i < 6) (j : Nat) (hj : j < txL i) : gM Y l mJ1_charAt_3b067 S [.ref (yV Y i), .int (iI ((j : Int)))] (pV (.int (iI (txC i j))) (fun S' => S' = S)) := by
  refine gM_of (by decide) (Nat.le_of_ble_eq_true rfl) ?_
  intro X hXl B E
  have h3 := txL_in i
  have hc := txC_in hi hj
  show gW Y X S 0 [(0, .ref (yV Y i)), (1, .int (iI ((j : Int))))] []
  refine g_iload_n (q := 1) B dJ1_charAt_3b067_0 rfl 1 rfl ?_
  refine g_aload_n (q := 2) B dJ1_charAt_3b067_1 rfl 0 rfl ?_
  refine g_blen i hi (q := 3) B dJ1_charAt_3b067_2 rfl ?_
  refine g_callS (q := 6) (As := [.int (iI ((j : Int))), .int (iI (((txL i : Nat) : Int)))]) (st := []) B dJ1_charAt_3b067_3 rfl (c_J0_checkIndex_df160 (l := xL X) (S := S) ((j : Int)) (((txL i : Nat) : Int)) (by omega) (by omega) (by omega)) eJ0_checkIndex_df160 w326 (by decide) rfl rfl (Nat.le_of_ble_eq_true rfl) (g_0E ?_)
  refine g_aload_n (q := 7) B dJ1_charAt_3b067_6 rfl 0 rfl ?_
  refine g_iload_n (q := 8) B dJ1_charAt_3b067_7 rfl 1 rfl ?_
  refine g_bald i j hi (by omega) (q := 9) B dJ1_charAt_3b067_8 rfl ?_
  refine g_sipush (q := 12) B dJ1_charAt_3b067_9 rfl (by decide) ?_
  refine g_iand (v := (iI (txC i j))) (q := 13) B dJ1_charAt_3b067_12 rfl (tx_and hi hj) ?_
  refine g_i2c (v := iI (txC i j)) (q := 14) B dJ1_charAt_3b067_13 rfl (i2c_id (by omega) (by omega)) ?_
  refine g_zret B E dJ1_charAt_3b067_14 rfl (nz_c (by omega) (by omega)) ?_
  exact ⟨rfl, rfl⟩
set_option maxHeartbeats 4000000 in
theorem c_J0_charAt_5068e {Y : gY} {l : Launch} {S : SS} (i : Nat) (hi : i < 6) (j : Nat) (hj : j < txL i) : gM Y l mJ0_charAt_5068e S [.ref (yK Y i), .int (iI ((j : Int)))] (pV (.int (iI (txC i j))) (fun S' => S' = S)) := by
  refine gM_of (by decide) (Nat.le_of_ble_eq_true rfl) ?_
  intro X hXl B E
  have hc := txC_in hi hj
  show gW Y X S 0 [(0, .ref (yK Y i)), (1, .int (iI ((j : Int))))] []
  refine g_aload_n (q := 1) B dJ0_charAt_5068e_0 rfl 0 rfl ?_
  refine g_callT i hi (q := 4) (As := []) (st := []) B dJ0_charAt_5068e_1 rfl (c_J0_isLatin1_aae02 (l := xL X) (S := S) i hi ) eJ0_isLatin1_aae02 w319 (by decide) rfl rfl (Nat.le_of_ble_eq_true rfl) (g_kE ?_)
  refine g_if_eq (t := 16) (q := 7) B dJ0_charAt_5068e_4 (by decide) rfl ⟨by omega, by omega⟩ (fun cq4 => ?_) (fun cq4 => ?_)
  · exact absurd cq4 (by omega)
  · refine g_aload_n (q := 8) B dJ0_charAt_5068e_7 rfl 0 rfl ?_
    refine g_strV i hi (q := 11) B dJ0_charAt_5068e_8 rfl w949 ?_
    refine g_iload_n (q := 12) B dJ0_charAt_5068e_11 rfl 1 rfl ?_
    refine g_callS (q := 15) (As := [.ref (yV Y i), .int (iI ((j : Int)))]) (st := []) B dJ0_charAt_5068e_12 rfl (c_J1_charAt_3b067 (l := xL X) (S := S) i hi j hj) eJ1_charAt_3b067 w323 (by decide) rfl rfl (Nat.le_of_ble_eq_true rfl) (g_kE ?_)
    refine g_zret B E dJ0_charAt_5068e_15 rfl (nz_c (by omega) (by omega)) ?_
    exact ⟨rfl, rfl⟩
