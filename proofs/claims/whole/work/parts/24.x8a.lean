set_option maxHeartbeats 4000000 in
theorem c_X8_in {Y : gY} {l : Launch} {S : SS} (v lo hi : Int) (hv : rL v) (hl : rL lo) (hh : rL hi) : gM Y l mX8_in S [.long (lI v), .long (lI lo), .long (lI hi)] (pV (.int (bI (lo ≤ v ∧ v ≤ hi))) (fun S' => S' = S)) := by
  refine gM_of (by decide) (Nat.le_of_ble_eq_true rfl) ?_
  intro X hXl B E
  show gW Y X S 0 [(0, .long (lI v)), (2, .long (lI lo)), (4, .long (lI hi))] []
  refine g_lload_n (q := 1) B dX8_in_0 rfl 0 rfl ?_
  refine g_lload_n (q := 2) B dX8_in_1 rfl 1 rfl ?_
  refine g_lcmp_lt (t := 17) (q := 6) B dX8_in_2 dX8_in_3 (by decide) rfl hv hl (fun cq2 => ?_) (fun cq2 => ?_)
  · refine g_iconst (q := 18) B dX8_in_17 rfl ?_
    refine g_zret B E dX8_in_18 rfl (by decide) ?_
    exact ⟨zf (by omega), rfl⟩
  · refine g_lload_n (q := 7) B dX8_in_6 rfl 0 rfl ?_
    refine g_lload (q := 9) B dX8_in_7 rfl 2 rfl ?_
    refine g_lcmp_gt (t := 17) (q := 13) B dX8_in_9 dX8_in_10 (by decide) rfl hv hh (fun cq9 => ?_) (fun cq9 => ?_)
    · refine g_iconst (q := 18) B dX8_in_17 rfl ?_
      refine g_zret B E dX8_in_18 rfl (by decide) ?_
      exact ⟨zf (by omega), rfl⟩
    · refine g_iconst (q := 14) B dX8_in_13 rfl ?_
      refine g_goto (q := 18) B dX8_in_14 (by decide) ?_
      refine g_zret B E dX8_in_18 rfl (by decide) ?_
      exact ⟨zt (by omega), rfl⟩
set_option maxHeartbeats 4000000 in
theorem c_X8_isJewel {Y : gY} {l : Launch} {S : SS} {n : Nat} (hm : isM n) (hq : wb (mw S n)) (j : Int) (hj : rI j) : gM Y l mX8_isJewel S [.ref (yA Y n), .int (iI j)] (pV (.int (bI (0 ≤ j ∧ j ≤ S n 0 - 1))) (fun S' => S' = S)) := by
  refine gM_of (by decide) (Nat.le_of_ble_eq_true rfl) ?_
  intro X hXl B E
  obtain ⟨⟨⟨hn0, hn16⟩, hc0, hc1⟩, hct0⟩ : ((0 ≤ S n 0 ∧ S n 0 ≤ 16) ∧ 0 ≤ S n 5 ∧ S n 5 < 65536) ∧ (S n 5).toNat.testBit 0 = false := id hq
  obtain ⟨hj0, hj1⟩ := hj
  show gW Y X S 0 [(0, .ref (yA Y n)), (1, .int (iI j))] []
  refine g_iload_n (q := 1) B dX8_isJewel_0 rfl 1 rfl ?_
  refine g_i2l (q := 2) B dX8_isJewel_1 rfl ⟨by omega, by omega⟩ ?_
  refine g_lconst (z := 0) (q := 3) B dX8_isJewel_2 rfl rfl ?_
  refine g_aload_n (q := 4) B dX8_isJewel_3 rfl 0 rfl ?_
  refine g_iconst (q := 5) B dX8_isJewel_4 rfl ?_
  refine g_iald (n := n) (q := 6) B dX8_isJewel_5 rfl rfl (cw_M hm (S n)) (by decide) (by omega) (by omega) ?_
  refine g_iconst (q := 7) B dX8_isJewel_6 rfl ?_
  refine g_isub (q := 8) B dX8_isJewel_7 rfl ?_
  refine g_i2l (q := 9) B dX8_isJewel_8 rfl ⟨by omega, by omega⟩ ?_
  refine g_callS (q := 12) (As := [.long (lI j), .long (lI 0), .long (lI ((S n 0) - 1))]) (st := []) B dX8_isJewel_9 rfl (c_X8_in (l := xL X) (S := S) j 0 ((S n 0) - 1) ⟨by omega, by omega⟩ ⟨by omega, by omega⟩ ⟨by omega, by omega⟩) eX8_in w1001 (by decide) rfl rfl (Nat.le_of_ble_eq_true rfl) (g_kE ?_)
  refine g_zret B E dX8_isJewel_12 rfl (nz_b _) ?_
  exact ⟨rfl, rfl⟩
set_option maxHeartbeats 4000000 in
theorem c_X8_isCutPlace {Y : gY} {l : Launch} {S : SS} {n : Nat} (hm : isM n) (hq : wb (mw S n)) (j : Int) (hj : rI j) : gM Y l mX8_isCutPlace S [.ref (yA Y n), .int (iI j)] (pV (.int (bI (1 ≤ j ∧ j ≤ S n 0 - 1))) (fun S' => S' = S)) := by
  refine gM_of (by decide) (Nat.le_of_ble_eq_true rfl) ?_
  intro X hXl B E
  obtain ⟨⟨⟨hn0, hn16⟩, hc0, hc1⟩, hct0⟩ : ((0 ≤ S n 0 ∧ S n 0 ≤ 16) ∧ 0 ≤ S n 5 ∧ S n 5 < 65536) ∧ (S n 5).toNat.testBit 0 = false := id hq
  obtain ⟨hj0, hj1⟩ := hj
  show gW Y X S 0 [(0, .ref (yA Y n)), (1, .int (iI j))] []
  refine g_iload_n (q := 1) B dX8_isCutPlace_0 rfl 1 rfl ?_
  refine g_i2l (q := 2) B dX8_isCutPlace_1 rfl ⟨by omega, by omega⟩ ?_
  refine g_lconst (z := 1) (q := 3) B dX8_isCutPlace_2 rfl rfl ?_
  refine g_aload_n (q := 4) B dX8_isCutPlace_3 rfl 0 rfl ?_
  refine g_iconst (q := 5) B dX8_isCutPlace_4 rfl ?_
  refine g_iald (n := n) (q := 6) B dX8_isCutPlace_5 rfl rfl (cw_M hm (S n)) (by decide) (by omega) (by omega) ?_
  refine g_iconst (q := 7) B dX8_isCutPlace_6 rfl ?_
  refine g_isub (q := 8) B dX8_isCutPlace_7 rfl ?_
  refine g_i2l (q := 9) B dX8_isCutPlace_8 rfl ⟨by omega, by omega⟩ ?_
  refine g_callS (q := 12) (As := [.long (lI j), .long (lI 1), .long (lI ((S n 0) - 1))]) (st := []) B dX8_isCutPlace_9 rfl (c_X8_in (l := xL X) (S := S) j 1 ((S n 0) - 1) ⟨by omega, by omega⟩ ⟨by omega, by omega⟩ ⟨by omega, by omega⟩) eX8_in w1001 (by decide) rfl rfl (Nat.le_of_ble_eq_true rfl) (g_kE ?_)
  refine g_zret B E dX8_isCutPlace_12 rfl (nz_b _) ?_
  exact ⟨rfl, rfl⟩
set_option maxHeartbeats 4000000 in
theorem c_X8_isOwner {Y : gY} {l : Launch} {S : SS} (x : Int) (hx : rI x) : gM Y l mX8_isOwner S [.int (iI x)] (pV (.int (bI (-1 ≤ x ∧ x ≤ 1))) (fun S' => S' = S)) := by
  refine gM_of (by decide) (Nat.le_of_ble_eq_true rfl) ?_
  intro X hXl B E
  obtain ⟨hx0, hx1⟩ := hx
  show gW Y X S 0 [(0, .int (iI x))] []
  refine g_iload_n (q := 1) B dX8_isOwner_0 rfl 0 rfl ?_
  refine g_i2l (q := 2) B dX8_isOwner_1 rfl ⟨by omega, by omega⟩ ?_
  refine g_ldc2 (z := -1) (q := 5) B dX8_isOwner_2 rfl w1169 (by decide) ?_
  refine g_lconst (z := 1) (q := 6) B dX8_isOwner_5 rfl rfl ?_
  refine g_callS (q := 9) (As := [.long (lI x), .long (lI (-1)), .long (lI 1)]) (st := []) B dX8_isOwner_6 rfl (c_X8_in (l := xL X) (S := S) x (-1) 1 ⟨by omega, by omega⟩ ⟨by omega, by omega⟩ ⟨by omega, by omega⟩) eX8_in w1001 (by decide) rfl rfl (Nat.le_of_ble_eq_true rfl) (g_kE ?_)
  refine g_zret B E dX8_isOwner_9 rfl (nz_b _) ?_
  exact ⟨rfl, rfl⟩
set_option maxHeartbeats 4000000 in
theorem c_X8_jewelAt {Y : gY} {l : Launch} {S : SS} {n : Nat} (hm : isM n) (hw : wf (mw S n)) (p : Int) (h0 : 0 ≤ p) (h1 : p < S n 0) : gM Y l mX8_jewelAt S [.ref (yA Y n), .int (iI p)] (pV (.int (iI (jatF (mw S n) p))) (fun S' => S' = S)) := by
  refine gM_of (by decide) (Nat.le_of_ble_eq_true rfl) ?_
  intro X hXl B E
  obtain ⟨⟨hn0, hn16⟩, ⟨hb0, hb1⟩, ⟨hm0, hm1⟩, ⟨hs0, hs1⟩, ⟨hc0, hc1⟩, hct, hkw, how⟩ := wfT hw
  show gW Y X S 0 [(0, .ref (yA Y n)), (1, .int (iI p))] []
  refine g_aload_n (q := 1) B dX8_jewelAt_0 rfl 0 rfl ?_
  refine g_iconst (q := 2) B dX8_jewelAt_1 rfl ?_
  refine g_iald (n := n) (q := 3) B dX8_jewelAt_2 rfl rfl (cw_M hm (S n)) (by decide) (by omega) (by omega) ?_
  refine g_iload_n (q := 4) B dX8_jewelAt_3 rfl 1 rfl ?_
  refine g_iadd (q := 5) B dX8_jewelAt_4 rfl ?_
  refine g_aload_n (q := 6) B dX8_jewelAt_5 rfl 0 rfl ?_
  refine g_iconst (q := 7) B dX8_jewelAt_6 rfl ?_
  refine g_iald (n := n) (q := 8) B dX8_jewelAt_7 rfl rfl (cw_M hm (S n)) (by decide) (by omega) (by omega) ?_
  refine g_irem (q := 9) B dX8_jewelAt_8 rfl (by omega) (by omega) (by omega) (by omega) ?_
  refine g_iret B E dX8_jewelAt_9 ?_
  exact ⟨rfl, rfl⟩
set_option maxHeartbeats 4000000 in
theorem c_X8_placeOn {Y : gY} {l : Launch} {S : SS} {n : Nat} (hm : isM n) (hw : wf (mw S n)) (j : Int) (h0 : 0 ≤ j) (h1 : j < S n 0) : gM Y l mX8_placeOn S [.ref (yA Y n), .int (iI j)] (pV (.int (iI ((j - S n 1 + S n 0) % S n 0))) (fun S' => S' = S)) := by
  refine gM_of (by decide) (Nat.le_of_ble_eq_true rfl) ?_
  intro X hXl B E
  obtain ⟨⟨hn0, hn16⟩, ⟨hb0, hb1⟩, ⟨hm0, hm1⟩, ⟨hs0, hs1⟩, ⟨hc0, hc1⟩, hct, hkw, how⟩ := wfT hw
  show gW Y X S 0 [(0, .ref (yA Y n)), (1, .int (iI j))] []
  refine g_iload_n (q := 1) B dX8_placeOn_0 rfl 1 rfl ?_
  refine g_aload_n (q := 2) B dX8_placeOn_1 rfl 0 rfl ?_
  refine g_iconst (q := 3) B dX8_placeOn_2 rfl ?_
  refine g_iald (n := n) (q := 4) B dX8_placeOn_3 rfl rfl (cw_M hm (S n)) (by decide) (by omega) (by omega) ?_
  refine g_isub (q := 5) B dX8_placeOn_4 rfl ?_
  refine g_aload_n (q := 6) B dX8_placeOn_5 rfl 0 rfl ?_
  refine g_iconst (q := 7) B dX8_placeOn_6 rfl ?_
  refine g_iald (n := n) (q := 8) B dX8_placeOn_7 rfl rfl (cw_M hm (S n)) (by decide) (by omega) (by omega) ?_
  refine g_iadd (q := 9) B dX8_placeOn_8 rfl ?_
  refine g_aload_n (q := 10) B dX8_placeOn_9 rfl 0 rfl ?_
  refine g_iconst (q := 11) B dX8_placeOn_10 rfl ?_
  refine g_iald (n := n) (q := 12) B dX8_placeOn_11 rfl rfl (cw_M hm (S n)) (by decide) (by omega) (by omega) ?_
  refine g_irem (q := 13) B dX8_placeOn_12 rfl (by omega) (by omega) (by omega) (by omega) ?_
  refine g_iret B E dX8_placeOn_13 ?_
  exact ⟨rfl, rfl⟩
set_option maxHeartbeats 4000000 in
theorem c_X8_valueOf {Y : gY} {l : Launch} {S : SS} {n : Nat} (hm : isM n) (hw : wf (mw S n)) (j : Int) (h0 : 0 ≤ j) (h1 : j < S n 0) : gM Y l mX8_valueOf S [.ref (yA Y n), .int (iI j)] (pV (.int (iI (valF (mw S n) j))) (fun S' => S' = S)) := by
  refine gM_of (by decide) (Nat.le_of_ble_eq_true rfl) ?_
  intro X hXl B E
  obtain ⟨⟨hn0, hn16⟩, ⟨hb0, hb1⟩, ⟨hm0, hm1⟩, ⟨hs0, hs1⟩, ⟨hc0, hc1⟩, hct, hkw, how⟩ := wfT hw
  show gW Y X S 0 [(0, .ref (yA Y n)), (1, .int (iI j))] []
  refine g_aload_n (q := 1) B dX8_valueOf_0 rfl 0 rfl ?_
  refine g_iconst (q := 2) B dX8_valueOf_1 rfl ?_
  refine g_iald (n := n) (q := 3) B dX8_valueOf_2 rfl rfl (cw_M hm (S n)) (by decide) (by omega) (by omega) ?_
  refine g_if_ne (t := 10) (q := 6) B dX8_valueOf_3 (by decide) rfl ⟨by omega, by omega⟩ (fun cq3 => ?_) (fun cq3 => ?_)
  · refine g_aload_n (q := 11) B dX8_valueOf_10 rfl 0 rfl ?_
    refine g_bipush (q := 13) B dX8_valueOf_11 rfl (by decide) ?_
    refine g_iload_n (q := 14) B dX8_valueOf_13 rfl 1 rfl ?_
    refine g_iadd (q := 15) B dX8_valueOf_14 rfl ?_
    refine g_iald (n := n) (q := 16) B dX8_valueOf_15 rfl rfl (cw_M hm (S n)) (by decide) (by omega) (by omega) ?_
    refine g_iret B E dX8_valueOf_16 ?_
    exact ⟨by rw [valF, mw_4, if_neg cq3, mw_e S n (by omega) (by omega)], rfl⟩
  · refine g_iconst (q := 7) B dX8_valueOf_6 rfl ?_
    refine g_goto (q := 16) B dX8_valueOf_7 (by decide) ?_
    refine g_iret B E dX8_valueOf_16 ?_
    exact ⟨by rw [valF, mw_4, if_pos cq3], rfl⟩
set_option maxHeartbeats 4000000 in
theorem c_X8_isCut {Y : gY} {l : Launch} {S : SS} {n : Nat} (hm : isM n) (hc0 : 0 ≤ S n 5) (hc1 : S n 5 < 65536) (p : Int) (h0 : 0 ≤ p) (h1 : p < 16) : gM Y l mX8_isCut S [.ref (yA Y n), .int (iI p)] (pV (.int (bI ((S n 5).toNat.testBit p.toNat = true))) (fun S' => S' = S)) := by
  refine gM_of (by decide) (Nat.le_of_ble_eq_true rfl) ?_
  intro X hXl B E
  have hd : 0 ≤ S n 5 / 2 ^ p.toNat ∧ S n 5 / 2 ^ p.toNat ≤ S n 5 := ⟨Int.ediv_nonneg hc0 (Int.le_of_lt (Int.pow_pos (by decide))), Int.ediv_le_self _ hc0⟩
  show gW Y X S 0 [(0, .ref (yA Y n)), (1, .int (iI p))] []
  refine g_aload_n (q := 1) B dX8_isCut_0 rfl 0 rfl ?_
  refine g_iconst (q := 2) B dX8_isCut_1 rfl ?_
  refine g_iald (n := n) (q := 3) B dX8_isCut_2 rfl rfl (cw_M hm (S n)) (by decide) (by omega) (by omega) ?_
  refine g_iload_n (q := 4) B dX8_isCut_3 rfl 1 rfl ?_
  refine g_ishr (v := (iI (S n 5 / 2 ^ p.toNat))) (q := 5) B dX8_isCut_4 rfl (iI_shr (by omega) (by omega) (by omega) (by omega)) ?_
  refine g_iconst (q := 6) B dX8_isCut_5 rfl ?_
  refine g_iand (v := (iI (S n 5 / 2 ^ p.toNat % 2))) (q := 7) B dX8_isCut_6 rfl (iI_and1 (by omega) (by omega)) ?_
  refine g_iconst (q := 8) B dX8_isCut_7 rfl ?_
  refine g_icmp_ne (t := 15) (q := 11) B dX8_isCut_8 (by decide) rfl ⟨by omega, by omega⟩ ⟨by omega, by omega⟩ (fun cq8 => ?_) (fun cq8 => ?_)
  · refine g_iconst (q := 16) B dX8_isCut_15 rfl ?_
    refine g_zret B E dX8_isCut_16 rfl (by decide) ?_
    exact ⟨zf (by rw [← cut_bit hc0 h0]; omega), rfl⟩
  · refine g_iconst (q := 12) B dX8_isCut_11 rfl ?_
    refine g_goto (q := 16) B dX8_isCut_12 (by decide) ?_
    refine g_zret B E dX8_isCut_16 rfl (by decide) ?_
    exact ⟨zt (by rw [← cut_bit hc0 h0]; omega), rfl⟩
set_option maxHeartbeats 4000000 in
theorem c_X8_bits {Y : gY} {l : Launch} {S : SS} (x : Nat) (hx : x < 65536) : gM Y l mX8_bits S [.int (iI ((x : Int)))] (pV (.int (iI ((cn x 16 : Nat)))) (fun S' => S' = S)) := by
  refine gM_of (by decide) (Nat.le_of_ble_eq_true rfl) ?_
  intro X hXl B E
  show gW Y X S 0 [(0, .int (iI ((x : Int))))] []
  have lp4 : ∀ (fu : Nat) (k : Nat) (x0 x1 x2 : Int) , x0 = ((x : Int)) → x1 = ((cn x k : Nat)) → x2 = ((k : Int)) → k ≤ 16 → 16 - k < fu → gW Y X S 4 [(0, .int (iI x0)), (1, .int (iI x1)), (2, .int (iI x2))] [] := by
    intro fu
    induction fu with
    | zero =>
      intro k x0 x1 x2 e_x0 e_x1 e_x2 hk hfu
      exact absurd hfu (Nat.not_lt_zero _)
    | succ fu ih =>
      intro k x0 x1 x2 e_x0 e_x1 e_x2 hk hfu
      subst e_x0
      subst e_x1
      subst e_x2
      obtain ⟨dv, hdv⟩ : ∃ d : Nat, d = x / 2 ^ k := ⟨_, rfl⟩
      have hd : (x : Int) / 2 ^ (k : Int).toNat = (dv : Int) := by rw [hdv, Int.natCast_ediv, Int.natCast_pow]; rfl
      have hd2 : dv ≤ x := by rw [hdv]; exact Nat.div_le_self x (2 ^ k)
      have hti : (if x.testBit k = true then 1 else 0) = dv % 2 := by rw [hdv]; exact tb_if x k
      refine g_iload_n (q := 5) B dX8_bits_4 rfl 2 rfl ?_
      refine g_bipush (q := 7) B dX8_bits_5 rfl (by decide) ?_
      refine g_icmp_ge (t := 24) (q := 10) B dX8_bits_7 (by decide) rfl ⟨by omega, by omega⟩ ⟨by omega, by omega⟩ (fun cq7 => ?_) (fun cq7 => ?_)
      · refine g_iload_n (q := 25) B dX8_bits_24 rfl 1 rfl ?_
        refine g_iret B E dX8_bits_25 ?_
        exact ⟨by rw [show k = 16 by omega], rfl⟩
      · refine g_iload_n (q := 11) B dX8_bits_10 rfl 1 rfl ?_
        refine g_iload_n (q := 12) B dX8_bits_11 rfl 0 rfl ?_
        refine g_iload_n (q := 13) B dX8_bits_12 rfl 2 rfl ?_
        refine g_ishr (v := (iI ((x : Int) / 2 ^ (k : Int).toNat))) (q := 14) B dX8_bits_13 rfl (iI_shr (by omega) (by omega) (by omega) (by omega)) ?_
        refine g_iconst (q := 15) B dX8_bits_14 rfl ?_
        refine g_iand (v := (iI ((x : Int) / 2 ^ (k : Int).toNat % 2))) (q := 16) B dX8_bits_15 rfl (by rw [hd]; exact iI_and1 (by omega) (by omega)) ?_
        refine g_iadd (q := 17) B dX8_bits_16 rfl ?_
        refine g_istore_n (q := 18) B dX8_bits_17 rfl (by decide) (L' := [(1, .int (iI (((cn x k : Nat)) + ((x : Int) / 2 ^ (k : Int).toNat % 2)))), (0, .int (iI ((x : Int)))), (2, .int (iI ((k : Int))))]) rfl ?_
        refine g_iinc (n := 2) (q := 21) B dX8_bits_18 rfl rfl (by decide) (L' := [(2, .int (iI ((k : Int) + 1))), (1, .int (iI (((cn x k : Nat)) + ((x : Int) / 2 ^ (k : Int).toNat % 2)))), (0, .int (iI ((x : Int))))]) rfl ?_
        refine g_goto (q := 4) B dX8_bits_21 (by decide) ?_
        refine g_sub [2, 1, 0] rfl ?_
        exact ih (k + 1) _ _ _ (by rfl) (by rw [cn_s, hd, hti]; omega) (by first | rfl | omega) (by first | assumption | omega) (by omega)
  refine g_iconst (q := 1) B dX8_bits_0 rfl ?_
  refine g_istore_n (q := 2) B dX8_bits_1 rfl (by decide) (L' := [(1, .int (iI 0)), (0, .int (iI ((x : Int))))]) rfl ?_
  refine g_iconst (q := 3) B dX8_bits_2 rfl ?_
  refine g_istore_n (q := 4) B dX8_bits_3 rfl (by decide) (L' := [(2, .int (iI 0)), (1, .int (iI 0)), (0, .int (iI ((x : Int))))]) rfl ?_
  refine g_sub [2, 1, 0] rfl ?_
  exact lp4 _ 0 _ _ _ (by first | rfl | omega) (by first | rfl | omega) (by first | rfl | omega) (by first | assumption | omega) (Nat.lt_succ_self _)
set_option maxHeartbeats 4000000 in
theorem c_X8_runs {Y : gY} {l : Launch} {S : SS} {n : Nat} (hm : isM n) (hq : wb (mw S n)) : gM Y l mX8_runs S [.ref (yA Y n)] (pV (.int (iI (runsF (mw S n)))) (fun S' => S' = S)) := by
  refine gM_of (by decide) (Nat.le_of_ble_eq_true rfl) ?_
  intro X hXl B E
  obtain ⟨⟨⟨hn0, hn16⟩, hc0, hc1⟩, hct0⟩ : ((0 ≤ S n 0 ∧ S n 0 ≤ 16) ∧ 0 ≤ S n 5 ∧ S n 5 < 65536) ∧ (S n 5).toNat.testBit 0 = false := id hq
  show gW Y X S 0 [(0, .ref (yA Y n))] []
  refine g_aload_n (q := 1) B dX8_runs_0 rfl 0 rfl ?_
  refine g_iconst (q := 2) B dX8_runs_1 rfl ?_
  refine g_iald (n := n) (q := 3) B dX8_runs_2 rfl rfl (cw_M hm (S n)) (by decide) (by omega) (by omega) ?_
  refine g_if_ne (t := 10) (q := 6) B dX8_runs_3 (by decide) rfl ⟨by omega, by omega⟩ (fun cq3 => ?_) (fun cq3 => ?_)
  · refine g_aload_n (q := 11) B dX8_runs_10 rfl 0 rfl ?_
    refine g_iconst (q := 12) B dX8_runs_11 rfl ?_
    refine g_iald (n := n) (q := 13) B dX8_runs_12 rfl rfl (cw_M hm (S n)) (by decide) (by omega) (by omega) ?_
    refine g_eqT (st' := [.int (iI ((((S n 5).toNat : Nat) : Int)))]) (congrArg (fun z => Value.int (iI z) :: []) (show S n 5 = (((S n 5).toNat : Nat) : Int) by omega)) ?_
    refine g_callS (q := 16) (As := [.int (iI ((((S n 5).toNat : Nat) : Int)))]) (st := []) B dX8_runs_13 rfl (c_X8_bits (l := xL X) (S := S) ((S n 5).toNat) (by omega)) eX8_bits w1062 (by decide) rfl rfl (Nat.le_of_ble_eq_true rfl) (g_kE ?_)
    have := cn_16 ((S n 5).toNat)
    refine g_iconst (q := 17) B dX8_runs_16 rfl ?_
    refine g_iadd (q := 18) B dX8_runs_17 rfl ?_
    refine g_iret B E dX8_runs_18 ?_
    exact ⟨by rw [show runsF (mw S n) = _ from if_neg cq3]; rfl, rfl⟩
  · refine g_iconst (q := 7) B dX8_runs_6 rfl ?_
    refine g_goto (q := 18) B dX8_runs_7 (by decide) ?_
    refine g_iret B E dX8_runs_18 ?_
    exact ⟨by rw [show runsF (mw S n) = 0 from if_pos cq3], rfl⟩
set_option maxHeartbeats 4000000 in
theorem c_X8_isRun {Y : gY} {l : Launch} {S : SS} {n : Nat} (hm : isM n) (hq : wb (mw S n)) (r : Int) (hr : rI r) : gM Y l mX8_isRun S [.ref (yA Y n), .int (iI r)] (pV (.int (bI (0 ≤ r ∧ r ≤ runsF (mw S n) - 1))) (fun S' => S' = S)) := by
  refine gM_of (by decide) (Nat.le_of_ble_eq_true rfl) ?_
  intro X hXl B E
  obtain ⟨⟨⟨hn0, hn16⟩, hc0, hc1⟩, hct0⟩ : ((0 ≤ S n 0 ∧ S n 0 ≤ 16) ∧ 0 ≤ S n 5 ∧ S n 5 < 65536) ∧ (S n 5).toNat.testBit 0 = false := id hq
  obtain ⟨hr0, hr1⟩ := hr
  show gW Y X S 0 [(0, .ref (yA Y n)), (1, .int (iI r))] []
  refine g_iload_n (q := 1) B dX8_isRun_0 rfl 1 rfl ?_
  refine g_i2l (q := 2) B dX8_isRun_1 rfl ⟨by omega, by omega⟩ ?_
  refine g_lconst (z := 0) (q := 3) B dX8_isRun_2 rfl rfl ?_
  refine g_aload_n (q := 4) B dX8_isRun_3 rfl 0 rfl ?_
  refine g_callS (q := 7) (As := [.ref (yA Y n)]) (st := [.long (lI 0), .long (lI r)]) B dX8_isRun_4 rfl (c_X8_runs (l := xL X) (S := S) hm hq  ) eX8_runs w1059 (by decide) rfl rfl (Nat.le_of_ble_eq_true rfl) (g_kE ?_)
  have := runsF_in (mw S n)
  refine g_iconst (q := 8) B dX8_isRun_7 rfl ?_
  refine g_isub (q := 9) B dX8_isRun_8 rfl ?_
  refine g_i2l (q := 10) B dX8_isRun_9 rfl ⟨by omega, by omega⟩ ?_
  refine g_callS (q := 13) (As := [.long (lI r), .long (lI 0), .long (lI ((runsF (mw S n)) - 1))]) (st := []) B dX8_isRun_10 rfl (c_X8_in (l := xL X) (S := S) r 0 ((runsF (mw S n)) - 1) ⟨by omega, by omega⟩ ⟨by omega, by omega⟩ ⟨by omega, by omega⟩) eX8_in w1001 (by decide) rfl rfl (Nat.le_of_ble_eq_true rfl) (g_kE ?_)
  refine g_zret B E dX8_isRun_13 rfl (nz_b _) ?_
  exact ⟨rfl, rfl⟩
set_option maxHeartbeats 4000000 in
theorem c_X8_runAt {Y : gY} {l : Launch} {S : SS} {n : Nat} (hm : isM n) (hq : wb (mw S n)) (p : Int) (h0 : 0 ≤ p) (h1 : p < 16) : gM Y l mX8_runAt S [.ref (yA Y n), .int (iI p)] (pV (.int (iI (runF (mw S n) p))) (fun S' => S' = S)) := by
  refine gM_of (by decide) (Nat.le_of_ble_eq_true rfl) ?_
  intro X hXl B E
  obtain ⟨⟨⟨hn0, hn16⟩, hc0, hc1⟩, hct0⟩ : ((0 ≤ S n 0 ∧ S n 0 ≤ 16) ∧ 0 ≤ S n 5 ∧ S n 5 < 65536) ∧ (S n 5).toNat.testBit 0 = false := id hq
  show gW Y X S 0 [(0, .ref (yA Y n)), (1, .int (iI p))] []
  have lp4 : ∀ (fu : Nat) (k : Nat) (x2 x3 : Int) , x2 = (runF (mw S n) (k : Int)) → x3 = ((k : Int) + 1) → (k : Int) ≤ p → 16 - k < fu → gW Y X S 4 [(0, .ref (yA Y n)), (1, .int (iI p)), (2, .int (iI x2)), (3, .int (iI x3))] [] := by
    intro fu
    induction fu with
    | zero =>
      intro k x2 x3 e_x2 e_x3 hk hfu
      exact absurd hfu (Nat.not_lt_zero _)
    | succ fu ih =>
      intro k x2 x3 e_x2 e_x3 hk hfu
      subst e_x2
      subst e_x3
      refine g_iload_n (q := 5) B dX8_runAt_4 rfl 3 rfl ?_
      refine g_iload_n (q := 6) B dX8_runAt_5 rfl 1 rfl ?_
      refine g_icmp_gt (t := 31) (q := 9) B dX8_runAt_6 (by decide) rfl ⟨by omega, by omega⟩ ⟨by omega, by omega⟩ (fun cq6 => ?_) (fun cq6 => ?_)
      · refine g_iload_n (q := 32) B dX8_runAt_31 rfl 2 rfl ?_
        refine g_iret B E dX8_runAt_32 ?_
        exact ⟨by rw [show (k : Int) = p by omega], rfl⟩
      · refine g_iload_n (q := 10) B dX8_runAt_9 rfl 2 rfl ?_
        refine g_aload_n (q := 11) B dX8_runAt_10 rfl 0 rfl ?_
        refine g_iload_n (q := 12) B dX8_runAt_11 rfl 3 rfl ?_
        refine g_callS (q := 15) (As := [.ref (yA Y n), .int (iI ((k : Int) + 1))]) (st := [.int (iI (runF (mw S n) (k : Int)))]) B dX8_runAt_12 rfl (c_X8_isCut (l := xL X) (S := S) hm hc0 hc1 ((k : Int) + 1) (by omega) (by omega)) eX8_isCut w1053 (by decide) rfl rfl (Nat.le_of_ble_eq_true rfl) (g_kE ?_)
        refine g_ifb_eq (t := 22) (q := 18) B dX8_runAt_15 (by decide) rfl (fun cq15 => ?_) (fun cq15 => ?_)
        · refine g_iconst (q := 23) B dX8_runAt_22 rfl ?_
          refine g_iadd (q := 24) B dX8_runAt_23 rfl ?_
          refine g_istore_n (q := 25) B dX8_runAt_24 rfl (by decide) (L' := [(2, .int (iI ((runF (mw S n) (k : Int)) + 0))), (0, .ref (yA Y n)), (1, .int (iI p)), (3, .int (iI ((k : Int) + 1)))]) rfl ?_
          refine g_iinc (n := 3) (q := 28) B dX8_runAt_25 rfl rfl (by decide) (L' := [(3, .int (iI ((k : Int) + 1 + 1))), (2, .int (iI ((runF (mw S n) (k : Int)) + 0))), (0, .ref (yA Y n)), (1, .int (iI p))]) rfl ?_
          refine g_goto (q := 4) B dX8_runAt_28 (by decide) ?_
          refine g_sub [2, 3, 1, 0] rfl ?_
          exact ih (k + 1) _ _ (by rw [runF_s]; first | (rw [if_pos (show (mw S n 5).toNat.testBit (k + 1) = true from cq15)]) | (rw [if_neg (show ¬ (mw S n 5).toNat.testBit (k + 1) = true from cq15)])) (by omega) (by first | assumption | omega) (by omega)
        · refine g_iconst (q := 19) B dX8_runAt_18 rfl ?_
          refine g_goto (q := 23) B dX8_runAt_19 (by decide) ?_
          refine g_iadd (q := 24) B dX8_runAt_23 rfl ?_
          refine g_istore_n (q := 25) B dX8_runAt_24 rfl (by decide) (L' := [(2, .int (iI ((runF (mw S n) (k : Int)) + 1))), (0, .ref (yA Y n)), (1, .int (iI p)), (3, .int (iI ((k : Int) + 1)))]) rfl ?_
          refine g_iinc (n := 3) (q := 28) B dX8_runAt_25 rfl rfl (by decide) (L' := [(3, .int (iI ((k : Int) + 1 + 1))), (2, .int (iI ((runF (mw S n) (k : Int)) + 1))), (0, .ref (yA Y n)), (1, .int (iI p))]) rfl ?_
          refine g_goto (q := 4) B dX8_runAt_28 (by decide) ?_
          refine g_sub [2, 3, 1, 0] rfl ?_
          exact ih (k + 1) _ _ (by rw [runF_s]; first | (rw [if_pos (show (mw S n 5).toNat.testBit (k + 1) = true from cq15)]) | (rw [if_neg (show ¬ (mw S n 5).toNat.testBit (k + 1) = true from cq15)])) (by omega) (by first | assumption | omega) (by omega)
  refine g_iconst (q := 1) B dX8_runAt_0 rfl ?_
  refine g_istore_n (q := 2) B dX8_runAt_1 rfl (by decide) (L' := [(2, .int (iI 0)), (0, .ref (yA Y n)), (1, .int (iI p))]) rfl ?_
  refine g_iconst (q := 3) B dX8_runAt_2 rfl ?_
  refine g_istore_n (q := 4) B dX8_runAt_3 rfl (by decide) (L' := [(3, .int (iI 1)), (2, .int (iI 0)), (0, .ref (yA Y n)), (1, .int (iI p))]) rfl ?_
  refine g_sub [2, 3, 1, 0] rfl ?_
  exact lp4 _ 0 _ _ (by exact (runF_0b hq).symm) (by first | rfl | omega) (by first | assumption | omega) (Nat.lt_succ_self _)
set_option maxHeartbeats 4000000 in
theorem c_X8_firstOf {Y : gY} {l : Launch} {S : SS} {n : Nat} (hm : isM n) (hw : wf (mw S n)) (r : Int) (h0 : 0 ≤ r) (h1 : r < runsF (mw S n)) : gM Y l mX8_firstOf S [.ref (yA Y n), .int (iI r)] (pV (.int (iI (fpF (mw S n) r))) (fun S' => S' = S)) := by
  refine gM_of (by decide) (Nat.le_of_ble_eq_true rfl) ?_
  intro X hXl B E
  obtain ⟨⟨hn0, hn16⟩, ⟨hb0, hb1⟩, ⟨hm0, hm1⟩, ⟨hs0, hs1⟩, ⟨hc0, hc1⟩, hct, hkw, how⟩ := wfT hw
  have hrr := runsF_in (mw S n)
  obtain ⟨f0, f1, f2, f3⟩ := fpF_in hw h0 h1
  rw [mw_0] at f1
  show gW Y X S 0 [(0, .ref (yA Y n)), (1, .int (iI r))] []
  have lp2 : ∀ (fu : Nat) (p : Nat) (x2 : Int) , x2 = ((p : Int)) → (p : Int) ≤ fpF (mw S n) r → 17 - p < fu → gW Y X S 2 [(0, .ref (yA Y n)), (1, .int (iI r)), (2, .int (iI x2))] [] := by
    intro fu
    induction fu with
    | zero =>
      intro p x2 e_x2 hp hfu
      exact absurd hfu (Nat.not_lt_zero _)
    | succ fu ih =>
      intro p x2 e_x2 hp hfu
      subst e_x2
      refine g_aload_n (q := 3) B dX8_firstOf_2 rfl 0 rfl ?_
      refine g_iload_n (q := 4) B dX8_firstOf_3 rfl 2 rfl ?_
      refine g_callS (q := 7) (As := [.ref (yA Y n), .int (iI ((p : Int)))]) (st := []) B dX8_firstOf_4 rfl (c_X8_runAt (l := xL X) (S := S) hm (wf.b hw) ((p : Int)) (by omega) (by omega)) eX8_runAt w1056 (by decide) rfl rfl (Nat.le_of_ble_eq_true rfl) (g_kE ?_)
      have := runF_in (mw S n) (p := ((p : Int))) (by omega)
      refine g_iload_n (q := 8) B dX8_firstOf_7 rfl 1 rfl ?_
      refine g_icmp_ge (t := 17) (q := 11) B dX8_firstOf_8 (by decide) rfl ⟨by omega, by omega⟩ ⟨by omega, by omega⟩ (fun cq8 => ?_) (fun cq8 => ?_)
      · refine g_iload_n (q := 18) B dX8_firstOf_17 rfl 2 rfl ?_
        refine g_iret B E dX8_firstOf_18 ?_
        have e : (p : Int) = fpF (mw S n) r := by
          rcases Int.lt_or_eq_of_le hp with h | h
          · have := f3 p (by omega) h; omega
          · exact h
        exact ⟨by rw [e], rfl⟩
      · refine g_iinc (n := 2) (q := 14) B dX8_firstOf_11 rfl rfl (by decide) (L' := [(2, .int (iI ((p : Int) + 1))), (0, .ref (yA Y n)), (1, .int (iI r))]) rfl ?_
        refine g_goto (q := 2) B dX8_firstOf_14 (by decide) ?_
        refine g_sub [1, 2, 0] rfl ?_
        have hne : (p : Int) ≠ fpF (mw S n) r := fun h => cq8 (by rw [h, f2]; omega)
        exact ih (p + 1) _ (by first | rfl | omega) (by first | assumption | omega) (by omega)
  refine g_iconst (q := 1) B dX8_firstOf_0 rfl ?_
  refine g_istore_n (q := 2) B dX8_firstOf_1 rfl (by decide) (L' := [(2, .int (iI 0)), (0, .ref (yA Y n)), (1, .int (iI r))]) rfl ?_
  refine g_sub [1, 2, 0] rfl ?_
  exact lp2 _ 0 _ (by first | rfl | omega) (by first | assumption | omega) (Nat.lt_succ_self _)
set_option maxHeartbeats 4000000 in
theorem c_X8_placesOf {Y : gY} {l : Launch} {S : SS} {n : Nat} (hm : isM n) (hw : wf (mw S n)) (r : Int) (hr : rI r) : gM Y l mX8_placesOf S [.ref (yA Y n), .int (iI r)] (pV (.int (iI (plF (mw S n) r))) (fun S' => S' = S)) := by
  refine gM_of (by decide) (Nat.le_of_ble_eq_true rfl) ?_
  intro X hXl B E
  obtain ⟨⟨hn0, hn16⟩, ⟨hb0, hb1⟩, ⟨hm0, hm1⟩, ⟨hs0, hs1⟩, ⟨hc0, hc1⟩, hct, hkw, how⟩ := wfT hw
  obtain ⟨hr0, hr1⟩ := hr
  show gW Y X S 0 [(0, .ref (yA Y n)), (1, .int (iI r))] []
  have lp4 : ∀ (fu : Nat) (p : Nat) (x2 x3 : Int) , x2 = (sm (plE (mw S n) r) p) → x3 = ((p : Int)) → (p : Int) ≤ S n 0 → (S n 0).toNat - p < fu → gW Y X S 4 [(0, .ref (yA Y n)), (1, .int (iI r)), (2, .int (iI x2)), (3, .int (iI x3))] [] := by
    intro fu
    induction fu with
    | zero =>
      intro p x2 x3 e_x2 e_x3 hp hfu
      exact absurd hfu (Nat.not_lt_zero _)
    | succ fu ih =>
      intro p x2 x3 e_x2 e_x3 hp hfu
      subst e_x2
      subst e_x3
      refine g_iload_n (q := 5) B dX8_placesOf_4 rfl 3 rfl ?_
      refine g_aload_n (q := 6) B dX8_placesOf_5 rfl 0 rfl ?_
      refine g_iconst (q := 7) B dX8_placesOf_6 rfl ?_
      refine g_iald (n := n) (q := 8) B dX8_placesOf_7 rfl rfl (cw_M hm (S n)) (by decide) (by omega) (by omega) ?_
      refine g_icmp_ge (t := 34) (q := 11) B dX8_placesOf_8 (by decide) rfl ⟨by omega, by omega⟩ ⟨by omega, by omega⟩ (fun cq8 => ?_) (fun cq8 => ?_)
      · refine g_iload_n (q := 35) B dX8_placesOf_34 rfl 2 rfl ?_
        refine g_iret B E dX8_placesOf_35 ?_
        exact ⟨by rw [plF, show (mw S n 0).toNat = p by rw [mw_0]; omega], rfl⟩
      · refine g_iload_n (q := 12) B dX8_placesOf_11 rfl 2 rfl ?_
        refine g_aload_n (q := 13) B dX8_placesOf_12 rfl 0 rfl ?_
        refine g_iload_n (q := 14) B dX8_placesOf_13 rfl 3 rfl ?_
        refine g_callS (q := 17) (As := [.ref (yA Y n), .int (iI ((p : Int)))]) (st := [.int (iI (sm (plE (mw S n) r) p))]) B dX8_placesOf_14 rfl (c_X8_runAt (l := xL X) (S := S) hm (wf.b hw) ((p : Int)) (by omega) (by omega)) eX8_runAt w1056 (by decide) rfl rfl (Nat.le_of_ble_eq_true rfl) (g_kE ?_)
        have := runF_in (mw S n) (p := ((p : Int))) (by omega)
        refine g_iload_n (q := 18) B dX8_placesOf_17 rfl 1 rfl ?_
        refine g_icmp_ne (t := 25) (q := 21) B dX8_placesOf_18 (by decide) rfl ⟨by omega, by omega⟩ ⟨by omega, by omega⟩ (fun cq18 => ?_) (fun cq18 => ?_)
        · refine g_iconst (q := 26) B dX8_placesOf_25 rfl ?_
          refine g_iadd (q := 27) B dX8_placesOf_26 rfl ?_
          refine g_istore_n (q := 28) B dX8_placesOf_27 rfl (by decide) (L' := [(2, .int (iI ((sm (plE (mw S n) r) p) + 0))), (0, .ref (yA Y n)), (1, .int (iI r)), (3, .int (iI ((p : Int))))]) rfl ?_
          refine g_iinc (n := 3) (q := 31) B dX8_placesOf_28 rfl rfl (by decide) (L' := [(3, .int (iI ((p : Int) + 1))), (2, .int (iI ((sm (plE (mw S n) r) p) + 0))), (0, .ref (yA Y n)), (1, .int (iI r))]) rfl ?_
          refine g_goto (q := 4) B dX8_placesOf_31 (by decide) ?_
          refine g_sub [2, 3, 1, 0] rfl ?_
          exact ih (p + 1) _ _ (by first | rw [sm_s, plE, if_pos cq18] | rw [sm_s, plE, if_neg cq18]) (by first | rfl | omega) (by first | assumption | omega) (by omega)
        · refine g_iconst (q := 22) B dX8_placesOf_21 rfl ?_
          refine g_goto (q := 26) B dX8_placesOf_22 (by decide) ?_
          refine g_iadd (q := 27) B dX8_placesOf_26 rfl ?_
          refine g_istore_n (q := 28) B dX8_placesOf_27 rfl (by decide) (L' := [(2, .int (iI ((sm (plE (mw S n) r) p) + 1))), (0, .ref (yA Y n)), (1, .int (iI r)), (3, .int (iI ((p : Int))))]) rfl ?_
          refine g_iinc (n := 3) (q := 31) B dX8_placesOf_28 rfl rfl (by decide) (L' := [(3, .int (iI ((p : Int) + 1))), (2, .int (iI ((sm (plE (mw S n) r) p) + 1))), (0, .ref (yA Y n)), (1, .int (iI r))]) rfl ?_
          refine g_goto (q := 4) B dX8_placesOf_31 (by decide) ?_
          refine g_sub [2, 3, 1, 0] rfl ?_
          exact ih (p + 1) _ _ (by first | rw [sm_s, plE, if_pos cq18] | rw [sm_s, plE, if_neg cq18]) (by first | rfl | omega) (by first | assumption | omega) (by omega)
  refine g_iconst (q := 1) B dX8_placesOf_0 rfl ?_
  refine g_istore_n (q := 2) B dX8_placesOf_1 rfl (by decide) (L' := [(2, .int (iI 0)), (0, .ref (yA Y n)), (1, .int (iI r))]) rfl ?_
  refine g_iconst (q := 3) B dX8_placesOf_2 rfl ?_
  refine g_istore_n (q := 4) B dX8_placesOf_3 rfl (by decide) (L' := [(3, .int (iI 0)), (2, .int (iI 0)), (0, .ref (yA Y n)), (1, .int (iI r))]) rfl ?_
  refine g_sub [2, 3, 1, 0] rfl ?_
  exact lp4 _ 0 _ _ (by first | rfl | omega) (by first | rfl | omega) (by first | assumption | omega) (Nat.lt_succ_self _)
set_option maxHeartbeats 4000000 in
theorem c_X8_hasOf {Y : gY} {l : Launch} {S : SS} {n : Nat} (hm : isM n) (hw : wf (mw S n)) (s k : Int) (hs : rI s) (hk : rI k) : gM Y l mX8_hasOf S [.ref (yA Y n), .int (iI s), .int (iI k)] (pV (.int (iI (hasF (mw S n) s k))) (fun S' => S' = S)) := by
  refine gM_of (by decide) (Nat.le_of_ble_eq_true rfl) ?_
  intro X hXl B E
  obtain ⟨⟨hn0, hn16⟩, ⟨hb0, hb1⟩, ⟨hm0, hm1⟩, ⟨hs0, hs1⟩, ⟨hc0, hc1⟩, hct, hkw, how⟩ := wfT hw
  obtain ⟨hsa, hsb⟩ := hs
  obtain ⟨hka, hkb⟩ := hk
  show gW Y X S 0 [(0, .ref (yA Y n)), (1, .int (iI s)), (2, .int (iI k))] []
  have lp5 : ∀ (fu : Nat) (p : Nat) (x3 x4 : Int) , x3 = (sm (hasE (mw S n) s k) p) → x4 = ((p : Int)) → (p : Int) ≤ S n 0 → (S n 0).toNat - p < fu → gW Y X S 5 [(0, .ref (yA Y n)), (1, .int (iI s)), (2, .int (iI k)), (3, .int (iI x3)), (4, .int (iI x4))] [] := by
    intro fu
    induction fu with
    | zero =>
      intro p x3 x4 e_x3 e_x4 hp hfu
      exact absurd hfu (Nat.not_lt_zero _)
    | succ fu ih =>
      intro p x3 x4 e_x3 e_x4 hp hfu
      subst e_x3
      subst e_x4
      refine g_iload (q := 7) B dX8_hasOf_5 rfl 4 rfl ?_
      refine g_aload_n (q := 8) B dX8_hasOf_7 rfl 0 rfl ?_
      refine g_iconst (q := 9) B dX8_hasOf_8 rfl ?_
      refine g_iald (n := n) (q := 10) B dX8_hasOf_9 rfl rfl (cw_M hm (S n)) (by decide) (by omega) (by omega) ?_
      refine g_icmp_ge (t := 62) (q := 13) B dX8_hasOf_10 (by decide) rfl ⟨by omega, by omega⟩ ⟨by omega, by omega⟩ (fun cq10 => ?_) (fun cq10 => ?_)
      · refine g_iload_n (q := 63) B dX8_hasOf_62 rfl 3 rfl ?_
        refine g_iret B E dX8_hasOf_63 ?_
        exact ⟨by rw [hasF, show (mw S n 0).toNat = p by rw [mw_0]; omega], rfl⟩
      · refine g_aload_n (q := 14) B dX8_hasOf_13 rfl 0 rfl ?_
        refine g_iload (q := 16) B dX8_hasOf_14 rfl 4 rfl ?_
        refine g_callS (q := 19) (As := [.ref (yA Y n), .int (iI ((p : Int)))]) (st := []) B dX8_hasOf_16 rfl (c_X8_jewelAt (l := xL X) (S := S) hm hw ((p : Int)) (by omega) (by omega)) eX8_jewelAt w1077 (by decide) rfl rfl (Nat.le_of_ble_eq_true rfl) (g_kE ?_)
        have hj := jatF_in hw (p := (p : Int)) (by omega) (by rw [mw_0]; omega)
        rw [mw_0] at hj
        have hkk := hkw _ hj.1 hj.2
        have ho := how (p : Int) (by omega) (by omega)
        refine g_istore (q := 21) B dX8_hasOf_19 rfl (by decide) (L' := [(5, .int (iI (jatF (mw S n) ((p : Int))))), (0, .ref (yA Y n)), (1, .int (iI s)), (2, .int (iI k)), (3, .int (iI (sm (hasE (mw S n) s k) p))), (4, .int (iI ((p : Int))))]) rfl ?_
        refine g_iload_n (q := 22) B dX8_hasOf_21 rfl 4 rfl ?_
        refine g_aload_n (q := 23) B dX8_hasOf_22 rfl 1 rfl ?_
        refine g_bipush (q := 25) B dX8_hasOf_23 rfl (by decide) ?_
        refine g_iload (q := 27) B dX8_hasOf_25 rfl 5 rfl ?_
        refine g_iadd (q := 28) B dX8_hasOf_27 rfl ?_
        refine g_iald (n := n) (q := 29) B dX8_hasOf_28 rfl rfl (cw_M hm (S n)) (by decide) (by omega) (by omega) ?_
        refine g_iload_n (q := 30) B dX8_hasOf_29 rfl 2 rfl ?_
        refine g_icmp_ne (t := 53) (q := 33) B dX8_hasOf_30 (by decide) rfl ⟨by omega, by omega⟩ ⟨by omega, by omega⟩ (fun cq30 => ?_) (fun cq30 => ?_)
        · refine g_iconst (q := 54) B dX8_hasOf_53 rfl ?_
          refine g_iadd (q := 55) B dX8_hasOf_54 rfl ?_
          refine g_istore_n (q := 56) B dX8_hasOf_55 rfl (by decide) (L' := [(3, .int (iI ((sm (hasE (mw S n) s k) p) + 0))), (5, .int (iI (jatF (mw S n) ((p : Int))))), (0, .ref (yA Y n)), (1, .int (iI s)), (2, .int (iI k)), (4, .int (iI ((p : Int))))]) rfl ?_
          refine g_iinc (n := 5) (q := 59) B dX8_hasOf_56 rfl rfl (by decide) (L' := [(4, .int (iI ((p : Int) + 1))), (3, .int (iI ((sm (hasE (mw S n) s k) p) + 0))), (5, .int (iI (jatF (mw S n) ((p : Int))))), (0, .ref (yA Y n)), (1, .int (iI s)), (2, .int (iI k))]) rfl ?_
          refine g_goto (q := 5) B dX8_hasOf_59 (by decide) ?_
          refine g_sub [3, 4, 5, 1, 0] rfl ?_
          exact ih (p + 1) _ _ (by first | rw [sm_s, hasE, mw_e S n (by omega) (by omega), mw_e S n (c := 6 + _) (by omega) (by omega), if_pos (And.intro cq30 cq41)] | rw [sm_s, hasE, mw_e S n (by omega) (by omega), mw_e S n (c := 6 + _) (by omega) (by omega), if_neg (fun z => cq41 z.2)] | rw [sm_s, hasE, mw_e S n (by omega) (by omega), if_neg (fun z => cq30 z.1)]) (by first | rfl | omega) (by first | assumption | omega) (by omega)
        · refine g_aload_n (q := 34) B dX8_hasOf_33 rfl 1 rfl ?_
          refine g_bipush (q := 36) B dX8_hasOf_34 rfl (by decide) ?_
          refine g_iload (q := 38) B dX8_hasOf_36 rfl 0 rfl ?_
          refine g_iadd (q := 39) B dX8_hasOf_38 rfl ?_
          refine g_iald (n := n) (q := 40) B dX8_hasOf_39 rfl rfl (cw_M hm (S n)) (by decide) (by omega) (by omega) ?_
          refine g_iload_n (q := 41) B dX8_hasOf_40 rfl 3 rfl ?_
          refine g_icmp_ne (t := 53) (q := 44) B dX8_hasOf_41 (by decide) rfl ⟨by omega, by omega⟩ ⟨by omega, by omega⟩ (fun cq41 => ?_) (fun cq41 => ?_)
          · refine g_iconst (q := 54) B dX8_hasOf_53 rfl ?_
            refine g_iadd (q := 55) B dX8_hasOf_54 rfl ?_
            refine g_istore_n (q := 56) B dX8_hasOf_55 rfl (by decide) (L' := [(3, .int (iI ((sm (hasE (mw S n) s k) p) + 0))), (5, .int (iI (jatF (mw S n) ((p : Int))))), (0, .ref (yA Y n)), (1, .int (iI s)), (2, .int (iI k)), (4, .int (iI ((p : Int))))]) rfl ?_
            refine g_iinc (n := 5) (q := 59) B dX8_hasOf_56 rfl rfl (by decide) (L' := [(4, .int (iI ((p : Int) + 1))), (3, .int (iI ((sm (hasE (mw S n) s k) p) + 0))), (5, .int (iI (jatF (mw S n) ((p : Int))))), (0, .ref (yA Y n)), (1, .int (iI s)), (2, .int (iI k))]) rfl ?_
            refine g_goto (q := 5) B dX8_hasOf_59 (by decide) ?_
            refine g_sub [3, 4, 5, 1, 0] rfl ?_
            exact ih (p + 1) _ _ (by first | rw [sm_s, hasE, mw_e S n (by omega) (by omega), mw_e S n (c := 6 + _) (by omega) (by omega), if_pos (And.intro cq30 cq41)] | rw [sm_s, hasE, mw_e S n (by omega) (by omega), mw_e S n (c := 6 + _) (by omega) (by omega), if_neg (fun z => cq41 z.2)] | rw [sm_s, hasE, mw_e S n (by omega) (by omega), if_neg (fun z => cq30 z.1)]) (by first | rfl | omega) (by first | assumption | omega) (by omega)
          · refine g_aload_n (q := 45) B dX8_hasOf_44 rfl 1 rfl ?_
            refine g_iload (q := 47) B dX8_hasOf_45 rfl 0 rfl ?_
            refine g_callS (q := 50) (As := [.ref (yA Y n), .int (iI (jatF (mw S n) ((p : Int))))]) (st := [.int (iI (sm (hasE (mw S n) s k) p))]) B dX8_hasOf_47 rfl (c_X8_valueOf (l := xL X) (S := S) hm hw (jatF (mw S n) ((p : Int))) (by omega) (by omega)) eX8_valueOf w1080 (by decide) rfl rfl (Nat.le_of_ble_eq_true rfl) (g_kE ?_)
            refine g_goto (q := 54) B dX8_hasOf_50 (by decide) ?_
            refine g_iadd (q := 55) B dX8_hasOf_54 rfl ?_
            refine g_istore_n (q := 56) B dX8_hasOf_55 rfl (by decide) (L' := [(3, .int (iI ((sm (hasE (mw S n) s k) p) + (valF (mw S n) (jatF (mw S n) ((p : Int))))))), (5, .int (iI (jatF (mw S n) ((p : Int))))), (0, .ref (yA Y n)), (1, .int (iI s)), (2, .int (iI k)), (4, .int (iI ((p : Int))))]) rfl ?_
            refine g_iinc (n := 5) (q := 59) B dX8_hasOf_56 rfl rfl (by decide) (L' := [(4, .int (iI ((p : Int) + 1))), (3, .int (iI ((sm (hasE (mw S n) s k) p) + (valF (mw S n) (jatF (mw S n) ((p : Int))))))), (5, .int (iI (jatF (mw S n) ((p : Int))))), (0, .ref (yA Y n)), (1, .int (iI s)), (2, .int (iI k))]) rfl ?_
            refine g_goto (q := 5) B dX8_hasOf_59 (by decide) ?_
            refine g_sub [3, 4, 5, 1, 0] rfl ?_
            exact ih (p + 1) _ _ (by first | rw [sm_s, hasE, mw_e S n (by omega) (by omega), mw_e S n (c := 6 + _) (by omega) (by omega), if_pos (And.intro cq30 cq41)] | rw [sm_s, hasE, mw_e S n (by omega) (by omega), mw_e S n (c := 6 + _) (by omega) (by omega), if_neg (fun z => cq41 z.2)] | rw [sm_s, hasE, mw_e S n (by omega) (by omega), if_neg (fun z => cq30 z.1)]) (by first | rfl | omega) (by first | assumption | omega) (by omega)
  refine g_iconst (q := 1) B dX8_hasOf_0 rfl ?_
  refine g_istore_n (q := 2) B dX8_hasOf_1 rfl (by decide) (L' := [(3, .int (iI 0)), (0, .ref (yA Y n)), (1, .int (iI s)), (2, .int (iI k))]) rfl ?_
  refine g_iconst (q := 3) B dX8_hasOf_2 rfl ?_
  refine g_istore (q := 5) B dX8_hasOf_3 rfl (by decide) (L' := [(4, .int (iI 0)), (3, .int (iI 0)), (0, .ref (yA Y n)), (1, .int (iI s)), (2, .int (iI k))]) rfl ?_
  refine g_sub [2, 3, 4, 1, 0] rfl ?_
  exact lp5 _ 0 _ _ (by first | rfl | omega) (by first | rfl | omega) (by first | assumption | omega) (Nat.lt_succ_self _)
set_option maxHeartbeats 4000000 in
theorem c_X8_gap {Y : gY} {l : Launch} {S : SS} {n : Nat} (hm : isM n) (hw : wf (mw S n)) : gM Y l mX8_gap S [.ref (yA Y n)] (pV (.int (iI (gapF (mw S n)))) (fun S' => S' = S)) := by
  refine gM_of (by decide) (Nat.le_of_ble_eq_true rfl) ?_
  intro X hXl B E
  obtain ⟨⟨hn0, hn16⟩, ⟨hb0, hb1⟩, ⟨hm0, hm1⟩, ⟨hs0, hs1⟩, ⟨hc0, hc1⟩, hct, hkw, how⟩ := wfT hw
  show gW Y X S 0 [(0, .ref (yA Y n))] []
  have lp4 : ∀ (fu : Nat) (k : Nat) (x1 x2 : Int) , x1 = (sm (gapE (mw S n)) k) → x2 = ((k : Int)) → k ≤ 4 → 4 - k < fu → gW Y X S 4 [(0, .ref (yA Y n)), (1, .int (iI x1)), (2, .int (iI x2))] [] := by
    intro fu
    induction fu with
    | zero =>
      intro k x1 x2 e_x1 e_x2 hk hfu
      exact absurd hfu (Nat.not_lt_zero _)
    | succ fu ih =>
      intro k x1 x2 e_x1 e_x2 hk hfu
      subst e_x1
      subst e_x2
      refine g_iload_n (q := 5) B dX8_gap_4 rfl 2 rfl ?_
      refine g_iconst (q := 6) B dX8_gap_5 rfl ?_
      refine g_icmp_ge (t := 42) (q := 9) B dX8_gap_6 (by decide) rfl ⟨by omega, by omega⟩ ⟨by omega, by omega⟩ (fun cq6 => ?_) (fun cq6 => ?_)
      · refine g_iload_n (q := 43) B dX8_gap_42 rfl 1 rfl ?_
        refine g_iret B E dX8_gap_43 ?_
        exact ⟨by rw [gapF, show k = 4 by omega], rfl⟩
      · refine g_aload_n (q := 10) B dX8_gap_9 rfl 0 rfl ?_
        refine g_iconst (q := 11) B dX8_gap_10 rfl ?_
        refine g_iload_n (q := 12) B dX8_gap_11 rfl 2 rfl ?_
        refine g_callS (q := 15) (As := [.ref (yA Y n), .int (iI 0), .int (iI ((k : Int)))]) (st := []) B dX8_gap_12 rfl (c_X8_hasOf (l := xL X) (S := S) hm hw 0 ((k : Int)) ⟨by omega, by omega⟩ ⟨by omega, by omega⟩) eX8_hasOf w1074 (by decide) rfl rfl (Nat.le_of_ble_eq_true rfl) (g_kE ?_)
        have := hasF_in hw 0 ((k : Int))
        refine g_aload_n (q := 16) B dX8_gap_15 rfl 0 rfl ?_
        refine g_iconst (q := 17) B dX8_gap_16 rfl ?_
        refine g_iload_n (q := 18) B dX8_gap_17 rfl 2 rfl ?_
        refine g_callS (q := 21) (As := [.ref (yA Y n), .int (iI 1), .int (iI ((k : Int)))]) (st := [.int (iI (hasF (mw S n) 0 ((k : Int))))]) B dX8_gap_18 rfl (c_X8_hasOf (l := xL X) (S := S) hm hw 1 ((k : Int)) ⟨by omega, by omega⟩ ⟨by omega, by omega⟩) eX8_hasOf w1074 (by decide) rfl rfl (Nat.le_of_ble_eq_true rfl) (g_kE ?_)
        have := hasF_in hw 1 ((k : Int))
        refine g_isub (q := 22) B dX8_gap_21 rfl ?_
        refine g_istore_n (q := 23) B dX8_gap_22 rfl (by decide) (L' := [(3, .int (iI ((hasF (mw S n) 0 ((k : Int))) - (hasF (mw S n) 1 ((k : Int)))))), (0, .ref (yA Y n)), (1, .int (iI (sm (gapE (mw S n)) k))), (2, .int (iI ((k : Int))))]) rfl ?_
        refine g_iload_n (q := 24) B dX8_gap_23 rfl 2 rfl ?_
        refine g_iload_n (q := 25) B dX8_gap_24 rfl 0 rfl ?_
        refine g_if_ge (t := 33) (q := 28) B dX8_gap_25 (by decide) rfl ⟨by omega, by omega⟩ (fun cq25 => ?_) (fun cq25 => ?_)
        · refine g_iload_n (q := 34) B dX8_gap_33 rfl 0 rfl ?_
          refine g_iadd (q := 35) B dX8_gap_34 rfl ?_
          refine g_istore_n (q := 36) B dX8_gap_35 rfl (by decide) (L' := [(1, .int (iI ((sm (gapE (mw S n)) k) + ((hasF (mw S n) 0 ((k : Int))) - (hasF (mw S n) 1 ((k : Int))))))), (3, .int (iI ((hasF (mw S n) 0 ((k : Int))) - (hasF (mw S n) 1 ((k : Int)))))), (0, .ref (yA Y n)), (2, .int (iI ((k : Int))))]) rfl ?_
          refine g_iinc (n := 3) (q := 39) B dX8_gap_36 rfl rfl (by decide) (L' := [(2, .int (iI ((k : Int) + 1))), (1, .int (iI ((sm (gapE (mw S n)) k) + ((hasF (mw S n) 0 ((k : Int))) - (hasF (mw S n) 1 ((k : Int))))))), (3, .int (iI ((hasF (mw S n) 0 ((k : Int))) - (hasF (mw S n) 1 ((k : Int)))))), (0, .ref (yA Y n))]) rfl ?_
          refine g_goto (q := 4) B dX8_gap_39 (by decide) ?_
          refine g_sub [3, 1, 0] rfl ?_
          exact ih (k + 1) _ _ (by first | rw [sm_s, gapE, absI, if_pos cq25] | rw [sm_s, gapE, absI, if_neg cq25]) (by first | rfl | omega) (by first | assumption | omega) (by omega)
        · refine g_iload_n (q := 29) B dX8_gap_28 rfl 0 rfl ?_
          refine g_ineg (q := 30) B dX8_gap_29 rfl ?_
          refine g_goto (q := 34) B dX8_gap_30 (by decide) ?_
          refine g_iadd (q := 35) B dX8_gap_34 rfl ?_
          refine g_istore_n (q := 36) B dX8_gap_35 rfl (by decide) (L' := [(1, .int (iI ((sm (gapE (mw S n)) k) + (-((hasF (mw S n) 0 ((k : Int))) - (hasF (mw S n) 1 ((k : Int)))))))), (3, .int (iI ((hasF (mw S n) 0 ((k : Int))) - (hasF (mw S n) 1 ((k : Int)))))), (0, .ref (yA Y n)), (2, .int (iI ((k : Int))))]) rfl ?_
          refine g_iinc (n := 3) (q := 39) B dX8_gap_36 rfl rfl (by decide) (L' := [(2, .int (iI ((k : Int) + 1))), (1, .int (iI ((sm (gapE (mw S n)) k) + (-((hasF (mw S n) 0 ((k : Int))) - (hasF (mw S n) 1 ((k : Int)))))))), (3, .int (iI ((hasF (mw S n) 0 ((k : Int))) - (hasF (mw S n) 1 ((k : Int)))))), (0, .ref (yA Y n))]) rfl ?_
          refine g_goto (q := 4) B dX8_gap_39 (by decide) ?_
          refine g_sub [3, 1, 0] rfl ?_
          exact ih (k + 1) _ _ (by first | rw [sm_s, gapE, absI, if_pos cq25] | rw [sm_s, gapE, absI, if_neg cq25]) (by first | rfl | omega) (by first | assumption | omega) (by omega)
  refine g_iconst (q := 1) B dX8_gap_0 rfl ?_
  refine g_istore_n (q := 2) B dX8_gap_1 rfl (by decide) (L' := [(1, .int (iI 0)), (0, .ref (yA Y n))]) rfl ?_
  refine g_iconst (q := 3) B dX8_gap_2 rfl ?_
  refine g_istore_n (q := 4) B dX8_gap_3 rfl (by decide) (L' := [(2, .int (iI 0)), (1, .int (iI 0)), (0, .ref (yA Y n))]) rfl ?_
  refine g_sub [2, 1, 0] rfl ?_
  exact lp4 _ 0 _ _ (by first | rfl | omega) (by first | rfl | omega) (by first | assumption | omega) (Nat.lt_succ_self _)
set_option maxHeartbeats 4000000 in
theorem c_X8_nobodys {Y : gY} {l : Launch} {S : SS} {n : Nat} (hm : isM n) (hw : wf (mw S n)) : gM Y l mX8_nobodys S [.ref (yA Y n)] (pV (.int (iI (nobF (mw S n)))) (fun S' => S' = S)) := by
  refine gM_of (by decide) (Nat.le_of_ble_eq_true rfl) ?_
  intro X hXl B E
  obtain ⟨⟨hn0, hn16⟩, ⟨hb0, hb1⟩, ⟨hm0, hm1⟩, ⟨hs0, hs1⟩, ⟨hc0, hc1⟩, hct, hkw, how⟩ := wfT hw
  show gW Y X S 0 [(0, .ref (yA Y n))] []
  have lp4 : ∀ (fu : Nat) (p : Nat) (x1 x2 : Int) , x1 = (sm (nobE (mw S n)) p) → x2 = ((p : Int)) → (p : Int) ≤ S n 0 → (S n 0).toNat - p < fu → gW Y X S 4 [(0, .ref (yA Y n)), (1, .int (iI x1)), (2, .int (iI x2))] [] := by
    intro fu
    induction fu with
    | zero =>
      intro p x1 x2 e_x1 e_x2 hp hfu
      exact absurd hfu (Nat.not_lt_zero _)
    | succ fu ih =>
      intro p x1 x2 e_x1 e_x2 hp hfu
      subst e_x1
      subst e_x2
      have ho : (p : Int) < S n 0 → -1 ≤ S n (38 + (p : Int)) ∧ S n (38 + (p : Int)) ≤ 1 := fun h => how p (by omega) (by omega)
      refine g_iload_n (q := 5) B dX8_nobodys_4 rfl 2 rfl ?_
      refine g_aload_n (q := 6) B dX8_nobodys_5 rfl 0 rfl ?_
      refine g_iconst (q := 7) B dX8_nobodys_6 rfl ?_
      refine g_iald (n := n) (q := 8) B dX8_nobodys_7 rfl rfl (cw_M hm (S n)) (by decide) (by omega) (by omega) ?_
      refine g_icmp_ge (t := 35) (q := 11) B dX8_nobodys_8 (by decide) rfl ⟨by omega, by omega⟩ ⟨by omega, by omega⟩ (fun cq8 => ?_) (fun cq8 => ?_)
      · refine g_iload_n (q := 36) B dX8_nobodys_35 rfl 1 rfl ?_
        refine g_iret B E dX8_nobodys_36 ?_
        exact ⟨by rw [nobF, show (mw S n 0).toNat = p by rw [mw_0]; omega], rfl⟩
      · refine g_iload_n (q := 12) B dX8_nobodys_11 rfl 1 rfl ?_
        refine g_aload_n (q := 13) B dX8_nobodys_12 rfl 0 rfl ?_
        refine g_bipush (q := 15) B dX8_nobodys_13 rfl (by decide) ?_
        refine g_iload_n (q := 16) B dX8_nobodys_15 rfl 2 rfl ?_
        refine g_iadd (q := 17) B dX8_nobodys_16 rfl ?_
        refine g_iald (n := n) (q := 18) B dX8_nobodys_17 rfl rfl (cw_M hm (S n)) (by decide) (by omega) (by omega) ?_
        refine g_iconst (q := 19) B dX8_nobodys_18 rfl ?_
        refine g_icmp_ne (t := 26) (q := 22) B dX8_nobodys_19 (by decide) rfl ⟨by omega, by omega⟩ ⟨by omega, by omega⟩ (fun cq19 => ?_) (fun cq19 => ?_)
        · refine g_iconst (q := 27) B dX8_nobodys_26 rfl ?_
          refine g_iadd (q := 28) B dX8_nobodys_27 rfl ?_
          refine g_istore_n (q := 29) B dX8_nobodys_28 rfl (by decide) (L' := [(1, .int (iI ((sm (nobE (mw S n)) p) + 0))), (0, .ref (yA Y n)), (2, .int (iI ((p : Int))))]) rfl ?_
          refine g_iinc (n := 2) (q := 32) B dX8_nobodys_29 rfl rfl (by decide) (L' := [(2, .int (iI ((p : Int) + 1))), (1, .int (iI ((sm (nobE (mw S n)) p) + 0))), (0, .ref (yA Y n))]) rfl ?_
          refine g_goto (q := 4) B dX8_nobodys_32 (by decide) ?_
          refine g_sub [2, 1, 0] rfl ?_
          exact ih (p + 1) _ _ (by first | rw [sm_s, nobE, mw_e S n (by omega) (by omega), if_pos cq19] | rw [sm_s, nobE, mw_e S n (by omega) (by omega), if_neg cq19]) (by first | rfl | omega) (by first | assumption | omega) (by omega)
        · refine g_iconst (q := 23) B dX8_nobodys_22 rfl ?_
          refine g_goto (q := 27) B dX8_nobodys_23 (by decide) ?_
          refine g_iadd (q := 28) B dX8_nobodys_27 rfl ?_
          refine g_istore_n (q := 29) B dX8_nobodys_28 rfl (by decide) (L' := [(1, .int (iI ((sm (nobE (mw S n)) p) + 1))), (0, .ref (yA Y n)), (2, .int (iI ((p : Int))))]) rfl ?_
          refine g_iinc (n := 2) (q := 32) B dX8_nobodys_29 rfl rfl (by decide) (L' := [(2, .int (iI ((p : Int) + 1))), (1, .int (iI ((sm (nobE (mw S n)) p) + 1))), (0, .ref (yA Y n))]) rfl ?_
          refine g_goto (q := 4) B dX8_nobodys_32 (by decide) ?_
          refine g_sub [2, 1, 0] rfl ?_
          exact ih (p + 1) _ _ (by first | rw [sm_s, nobE, mw_e S n (by omega) (by omega), if_pos cq19] | rw [sm_s, nobE, mw_e S n (by omega) (by omega), if_neg cq19]) (by first | rfl | omega) (by first | assumption | omega) (by omega)
  refine g_iconst (q := 1) B dX8_nobodys_0 rfl ?_
  refine g_istore_n (q := 2) B dX8_nobodys_1 rfl (by decide) (L' := [(1, .int (iI 0)), (0, .ref (yA Y n))]) rfl ?_
  refine g_iconst (q := 3) B dX8_nobodys_2 rfl ?_
  refine g_istore_n (q := 4) B dX8_nobodys_3 rfl (by decide) (L' := [(2, .int (iI 0)), (1, .int (iI 0)), (0, .ref (yA Y n))]) rfl ?_
  refine g_sub [2, 1, 0] rfl ?_
  exact lp4 _ 0 _ _ (by first | rfl | omega) (by first | rfl | omega) (by first | assumption | omega) (Nat.lt_succ_self _)
set_option maxHeartbeats 4000000 in
theorem c_X8_whyNot {Y : gY} {l : Launch} {S : SS} {n : Nat} (hm : isM n) (hw : wf (mw S n)) (r : Int) (h0 : 0 ≤ r) (h1 : r < runsF (mw S n)) : gM Y l mX8_whyNot S [.ref (yA Y n), .int (iI r)] (pV (.int (iI (whyF (mw S n) r))) (fun S' => S' = S)) := by
  refine gM_of (by decide) (Nat.le_of_ble_eq_true rfl) ?_
  intro X hXl B E
  obtain ⟨⟨hn0, hn16⟩, ⟨hb0, hb1⟩, ⟨hm0, hm1⟩, ⟨hs0, hs1⟩, ⟨hc0, hc1⟩, hct, hkw, how⟩ := wfT hw
  obtain ⟨f0, f1, f2, f3⟩ := fpF_in hw h0 h1
  rw [mw_0] at f1
  have ho := how (fpF (mw S n) r) f0 (by omega)
  have e : mw S n (38 + fpF (mw S n) r) = S n (38 + fpF (mw S n) r) := mw_e S n (by omega) (by omega)
  show gW Y X S 0 [(0, .ref (yA Y n)), (1, .int (iI r))] []
  refine g_aload_n (q := 1) B dX8_whyNot_0 rfl 0 rfl ?_
  refine g_bipush (q := 3) B dX8_whyNot_1 rfl (by decide) ?_
  refine g_aload_n (q := 4) B dX8_whyNot_3 rfl 0 rfl ?_
  refine g_iload_n (q := 5) B dX8_whyNot_4 rfl 1 rfl ?_
  refine g_callS (q := 8) (As := [.ref (yA Y n), .int (iI r)]) (st := [.int (iI 38), .ref (yA Y n)]) B dX8_whyNot_5 rfl (c_X8_firstOf (l := xL X) (S := S) hm hw r (by omega) (by omega)) eX8_firstOf w1086 (by decide) rfl rfl (Nat.le_of_ble_eq_true rfl) (g_kE ?_)
  have hfp := fpF_in hw (r := r) (by omega) (by omega)
  rw [mw_0] at hfp
  refine g_iadd (q := 9) B dX8_whyNot_8 rfl ?_
  refine g_iald (n := n) (q := 10) B dX8_whyNot_9 rfl rfl (cw_M hm (S n)) (by decide) (by omega) (by omega) ?_
  refine g_istore_n (q := 11) B dX8_whyNot_10 rfl (by decide) (L' := [(2, .int (iI (S n (38 + (fpF (mw S n) r))))), (0, .ref (yA Y n)), (1, .int (iI r))]) rfl ?_
  refine g_iload_n (q := 12) B dX8_whyNot_11 rfl 0 rfl ?_
  refine g_iconst (q := 13) B dX8_whyNot_12 rfl ?_
  refine g_icmp_ne (t := 20) (q := 16) B dX8_whyNot_13 (by decide) rfl ⟨by omega, by omega⟩ ⟨by omega, by omega⟩ (fun cq13 => ?_) (fun cq13 => ?_)
  · refine g_iload_n (q := 21) B dX8_whyNot_20 rfl 0 rfl ?_
    refine g_aload_n (q := 22) B dX8_whyNot_21 rfl 1 rfl ?_
    refine g_iconst (q := 23) B dX8_whyNot_22 rfl ?_
    refine g_iald (n := n) (q := 24) B dX8_whyNot_23 rfl rfl (cw_M hm (S n)) (by decide) (by omega) (by omega) ?_
    refine g_icmp_ne (t := 31) (q := 27) B dX8_whyNot_24 (by decide) rfl ⟨by omega, by omega⟩ ⟨by omega, by omega⟩ (fun cq24 => ?_) (fun cq24 => ?_)
    · refine g_iconst (q := 32) B dX8_whyNot_31 rfl ?_
      refine g_iret B E dX8_whyNot_32 ?_
      exact ⟨by rw [whyF, e, if_neg cq13, mw_2, if_neg cq24], rfl⟩
    · refine g_iconst (q := 28) B dX8_whyNot_27 rfl ?_
      refine g_goto (q := 32) B dX8_whyNot_28 (by decide) ?_
      refine g_iret B E dX8_whyNot_32 ?_
      exact ⟨by rw [whyF, e, if_neg cq13, mw_2, if_pos cq24], rfl⟩
  · refine g_iconst (q := 17) B dX8_whyNot_16 rfl ?_
    refine g_goto (q := 32) B dX8_whyNot_17 (by decide) ?_
    refine g_iret B E dX8_whyNot_32 ?_
    exact ⟨by rw [whyF, e, if_pos cq13], rfl⟩
