set_option maxHeartbeats 4000000 in
theorem c_X8_free {Y : gY} {l : Launch} {S : SS} {n : Nat} (hm : isM n) : gM Y l mX8_free S [.ref (yA Y n)] (p0 (fun S' => mw S' n = freeF (mw S n) ∧ fm S S' n)) := by
  refine gM_of (by decide) (Nat.le_of_ble_eq_true rfl) ?_
  intro X hXl B E
  show gW Y X S 0 [(0, .ref (yA Y n))] []
  have lp6 : ∀ (fu : Nat) (p : Nat) (Sx : SS) (x1 : Int) , x1 = ((p : Int)) → p ≤ 16 → mw Sx n = ownF (uq (mw S n) 5 0) p → fm S Sx n → 16 - p < fu → gW Y X Sx 6 [(0, .ref (yA Y n)), (1, .int (iI x1))] [] := by
    intro fu
    induction fu with
    | zero =>
      intro p Sx x1 e_x1 hp hv hf hfu
      exact absurd hfu (Nat.not_lt_zero _)
    | succ fu ih =>
      intro p Sx x1 e_x1 hp hv hf hfu
      subst e_x1
      refine g_iload_n (q := 7) B dX8_free_6 rfl 1 rfl ?_
      refine g_bipush (q := 9) B dX8_free_7 rfl (by decide) ?_
      refine g_icmp_ge (t := 25) (q := 12) B dX8_free_9 (by decide) rfl ⟨by omega, by omega⟩ ⟨by omega, by omega⟩ (fun cq9 => ?_) (fun cq9 => ?_)
      · refine g_vret B E dX8_free_25 ?_
        exact ⟨rfl, by rw [hv, show p = 16 by omega, ownF_16], hf⟩
      · refine g_aload_n (q := 13) B dX8_free_12 rfl 0 rfl ?_
        refine g_bipush (q := 15) B dX8_free_13 rfl (by decide) ?_
        refine g_iload_n (q := 16) B dX8_free_15 rfl 1 rfl ?_
        refine g_iadd (q := 17) B dX8_free_16 rfl ?_
        refine g_iconst (q := 18) B dX8_free_17 rfl ?_
        refine g_iast (n := n) (q := 19) B dX8_free_18 rfl rfl (fun g => cw_M hm g) (by decide) (by omega) (by omega) ?_
        refine g_iinc (n := 1) (q := 22) B dX8_free_19 rfl rfl (by decide) (L' := [(1, .int (iI ((p : Int) + 1))), (0, .ref (yA Y n))]) rfl ?_
        refine g_goto (q := 6) B dX8_free_22 (by decide) ?_
        refine g_sub [1, 0] rfl ?_
        exact ih (p + 1) _ _ (by first | rfl | omega) (by first | assumption | omega) (by rw [mw_us Sx n (by omega) (by omega), hv, ownF_s]) (by exact hf.tr fm_us) (by omega)
  refine g_aload_n (q := 1) B dX8_free_0 rfl 0 rfl ?_
  refine g_iconst (q := 2) B dX8_free_1 rfl ?_
  refine g_iconst (q := 3) B dX8_free_2 rfl ?_
  refine g_iast (n := n) (q := 4) B dX8_free_3 rfl rfl (fun g => cw_M hm g) (by decide) (by omega) (by omega) ?_
  refine g_iconst (q := 5) B dX8_free_4 rfl ?_
  refine g_istore_n (q := 6) B dX8_free_5 rfl (by decide) (L' := [(1, .int (iI 0)), (0, .ref (yA Y n))]) rfl ?_
  refine g_sub [1, 0] rfl ?_
  exact lp6 _ 0 _ _ (by first | rfl | omega) (by first | assumption | omega) (by rw [ownF_0, mw_us S n (by decide) (by decide)]) (by exact fm_us) (Nat.lt_succ_self _)
set_option maxHeartbeats 4000000 in
theorem c_X8_clear {Y : gY} {l : Launch} {S : SS} {n : Nat} (hm : isM n) : gM Y l mX8_clear S [.ref (yA Y n)] (p0 (fun S' => mw S' n = newM ∧ fm S S' n)) := by
  refine gM_of (by decide) (Nat.le_of_ble_eq_true rfl) ?_
  intro X hXl B E
  show gW Y X S 0 [(0, .ref (yA Y n))] []
  have lp2 : ∀ (fu : Nat) (k : Nat) (Sx : SS) (x1 : Int) , x1 = ((k : Int)) → k ≤ 54 → mw Sx n = zerF (mw S n) k → fm S Sx n → 54 - k < fu → gW Y X Sx 2 [(0, .ref (yA Y n)), (1, .int (iI x1))] [] := by
    intro fu
    induction fu with
    | zero =>
      intro k Sx x1 e_x1 hk hv hf hfu
      exact absurd hfu (Nat.not_lt_zero _)
    | succ fu ih =>
      intro k Sx x1 e_x1 hk hv hf hfu
      subst e_x1
      refine g_iload_n (q := 3) B dX8_clear_2 rfl 1 rfl ?_
      refine g_bipush (q := 5) B dX8_clear_3 rfl (by decide) ?_
      refine g_icmp_ge (t := 18) (q := 8) B dX8_clear_5 (by decide) rfl ⟨by omega, by omega⟩ ⟨by omega, by omega⟩ (fun cq5 => ?_) (fun cq5 => ?_)
      · refine g_aload_n (q := 19) B dX8_clear_18 rfl 0 rfl ?_
        refine g_callS (q := 22) (As := [.ref (yA Y n)]) (st := []) B dX8_clear_19 rfl (c_X8_free (l := xL X) (S := Sx) hm   ) eX8_free w948 (by decide) rfl rfl (Nat.le_of_ble_eq_true rfl) (g_k0 (fun Sy hSy => ?_))
        obtain ⟨hvSy, hfSy⟩ := hSy
        refine g_vret B E dX8_clear_22 ?_
        exact ⟨rfl, by rw [hvSy, hv, show k = 54 by omega, zerF_54]; rfl, hf.tr hfSy⟩
      · refine g_aload_n (q := 9) B dX8_clear_8 rfl 0 rfl ?_
        refine g_iload_n (q := 10) B dX8_clear_9 rfl 1 rfl ?_
        refine g_iconst (q := 11) B dX8_clear_10 rfl ?_
        refine g_iast (n := n) (q := 12) B dX8_clear_11 rfl rfl (fun g => cw_M hm g) (by decide) (by omega) (by omega) ?_
        refine g_iinc (n := 1) (q := 15) B dX8_clear_12 rfl rfl (by decide) (L' := [(1, .int (iI ((k : Int) + 1))), (0, .ref (yA Y n))]) rfl ?_
        refine g_goto (q := 2) B dX8_clear_15 (by decide) ?_
        refine g_sub [1, 0] rfl ?_
        exact ih (k + 1) _ _ (by first | rfl | omega) (by first | assumption | omega) (by rw [mw_us Sx n (by omega) (by omega), hv, zerF_s]) (by exact hf.tr fm_us) (by omega)
  refine g_iconst (q := 1) B dX8_clear_0 rfl ?_
  refine g_istore_n (q := 2) B dX8_clear_1 rfl (by decide) (L' := [(1, .int (iI 0)), (0, .ref (yA Y n))]) rfl ?_
  refine g_sub [1, 0] rfl ?_
  exact lp2 _ 0 S _ (by first | rfl | omega) (by first | assumption | omega) (by exact (zerF_0 _).symm) (by exact fm.rf) (Nat.lt_succ_self _)
set_option maxHeartbeats 4000000 in
theorem c_X8_copyState {Y : gY} {l : Launch} {S : SS} {na Na nb Nb : Nat} (ha : isA na Na) (hb : isA nb Nb) (hne : na ≠ nb) (f t : Int) (f0 : 0 ≤ f) (f1 : f + 54 ≤ Na) (t0 : 0 ≤ t) (t1 : t + 54 ≤ Nb) : gM Y l mX8_copyState S [.ref (yA Y na), .int (iI f), .ref (yA Y nb), .int (iI t)] (p0 (fun S' => S' = us S nb (cpF (S nb) (S na) f t 54))) := by
  refine gM_of (by decide) (Nat.le_of_ble_eq_true rfl) ?_
  intro X hXl B E
  have hla := isA_lt ha
  have hlb := isA_lt hb
  show gW Y X S 0 [(0, .ref (yA Y na)), (1, .int (iI f)), (2, .ref (yA Y nb)), (3, .int (iI t))] []
  have lp3 : ∀ (fu : Nat) (k : Nat) (x4 : Int) , x4 = ((k : Int)) → k ≤ 54 → 54 - k < fu → gW Y X (us S nb ((cpF (S nb) (S na) f t k))) 3 [(0, .ref (yA Y na)), (1, .int (iI f)), (2, .ref (yA Y nb)), (3, .int (iI t)), (4, .int (iI x4))] [] := by
    intro fu
    induction fu with
    | zero =>
      intro k x4 e_x4 hk hfu
      exact absurd hfu (Nat.not_lt_zero _)
    | succ fu ih =>
      intro k x4 e_x4 hk hfu
      subst e_x4
      refine g_iload (q := 5) B dX8_copyState_3 rfl 4 rfl ?_
      refine g_bipush (q := 7) B dX8_copyState_5 rfl (by decide) ?_
      refine g_icmp_ge (t := 28) (q := 10) B dX8_copyState_7 (by decide) rfl ⟨by omega, by omega⟩ ⟨by omega, by omega⟩ (fun cq7 => ?_) (fun cq7 => ?_)
      · refine g_vret B E dX8_copyState_28 ?_
        exact ⟨rfl, by rw [show k = 54 by omega]⟩
      · refine g_aload_n (q := 11) B dX8_copyState_10 rfl 2 rfl ?_
        refine g_iload_n (q := 12) B dX8_copyState_11 rfl 3 rfl ?_
        refine g_iload (q := 14) B dX8_copyState_12 rfl 4 rfl ?_
        refine g_iadd (q := 15) B dX8_copyState_14 rfl ?_
        refine g_aload_n (q := 16) B dX8_copyState_15 rfl 0 rfl ?_
        refine g_iload_n (q := 17) B dX8_copyState_16 rfl 1 rfl ?_
        refine g_iload (q := 19) B dX8_copyState_17 rfl 4 rfl ?_
        refine g_iadd (q := 20) B dX8_copyState_19 rfl ?_
        refine g_iald (n := na) (q := 21) B dX8_copyState_20 rfl ((us_ne _ _ (by omega)).trans rfl) (cw_A ha (S na)) (isA_lt ha) (by omega) (by omega) ?_
        refine g_iast (n := nb) (q := 22) B dX8_copyState_21 rfl (us_eq _ _ _) (fun g => cw_A hb g) (isA_lt hb) (by omega) (by omega) ?_
        refine g_eqS (us_us _ _ _ _) ?_
        refine g_iinc (n := 4) (q := 25) B dX8_copyState_22 rfl rfl (by decide) (L' := [(4, .int (iI ((k : Int) + 1))), (0, .ref (yA Y na)), (1, .int (iI f)), (2, .ref (yA Y nb)), (3, .int (iI t))]) rfl ?_
        refine g_goto (q := 3) B dX8_copyState_25 (by decide) ?_
        refine g_sub [1, 2, 3, 4, 0] rfl ?_
        refine g_eqS ((show us S nb (uq (cpF (S nb) (S na) f t k) (t + (k : Int)) (S na (f + (k : Int)))) = us S nb (cpF (S nb) (S na) f t (k + 1)) by rw [cpF_s])) ?_
        exact ih (k + 1) _ (by first | rfl | omega) (by first | assumption | omega) (by omega)
  refine g_iconst (q := 1) B dX8_copyState_0 rfl ?_
  refine g_istore (q := 3) B dX8_copyState_1 rfl (by decide) (L' := [(4, .int (iI 0)), (0, .ref (yA Y na)), (1, .int (iI f)), (2, .ref (yA Y nb)), (3, .int (iI t))]) rfl ?_
  refine g_sub [1, 2, 3, 4, 0] rfl ?_
  refine g_eqS ((show S = us S nb (cpF (S nb) (S na) f t 0) by rw [cpF_0, us_id])) ?_
  exact lp3 _ 0 _ (by first | rfl | omega) (by first | assumption | omega) (Nat.lt_succ_self _)
set_option maxHeartbeats 4000000 in
theorem c_X8_jewelOn {Y : gY} {l : Launch} {S : SS} {n : Nat} (hm : isM n) (hw : wf (mw S n)) (k w : Int) (hx : S n 0 < 16) : gM Y l mX8_jewelOn S [.ref (yA Y n), .int (iI k), .int (iI w)] (pV (.int (iI (S n 0))) (fun S' => mw S' n = addF (mw S n) k w ∧ fm S S' n)) := by
  refine gM_of (by decide) (Nat.le_of_ble_eq_true rfl) ?_
  intro X hXl B E
  obtain ⟨⟨hn0, hn16⟩, ⟨hb0, hb1⟩, ⟨hm0, hm1⟩, ⟨hs0, hs1⟩, ⟨hc0, hc1⟩, hct, hkw, how⟩ := wfT hw
  show gW Y X S 0 [(0, .ref (yA Y n)), (1, .int (iI k)), (2, .int (iI w))] []
  refine g_aload_n (q := 1) B dX8_jewelOn_0 rfl 0 rfl ?_
  refine g_iconst (q := 2) B dX8_jewelOn_1 rfl ?_
  refine g_iald (n := n) (q := 3) B dX8_jewelOn_2 rfl rfl (cw_M hm (S n)) (by decide) (by omega) (by omega) ?_
  refine g_istore_n (q := 4) B dX8_jewelOn_3 rfl (by decide) (L' := [(3, .int (iI (S n 0))), (0, .ref (yA Y n)), (1, .int (iI k)), (2, .int (iI w))]) rfl ?_
  refine g_aload_n (q := 5) B dX8_jewelOn_4 rfl 1 rfl ?_
  refine g_bipush (q := 7) B dX8_jewelOn_5 rfl (by decide) ?_
  refine g_iload_n (q := 8) B dX8_jewelOn_7 rfl 0 rfl ?_
  refine g_iadd (q := 9) B dX8_jewelOn_8 rfl ?_
  refine g_iload_n (q := 10) B dX8_jewelOn_9 rfl 2 rfl ?_
  refine g_iast (n := n) (q := 11) B dX8_jewelOn_10 rfl rfl (fun g => cw_M hm g) (by decide) (by omega) (by omega) ?_
  refine g_aload_n (q := 12) B dX8_jewelOn_11 rfl 1 rfl ?_
  refine g_bipush (q := 14) B dX8_jewelOn_12 rfl (by decide) ?_
  refine g_iload_n (q := 15) B dX8_jewelOn_14 rfl 0 rfl ?_
  refine g_iadd (q := 16) B dX8_jewelOn_15 rfl ?_
  refine g_iload_n (q := 17) B dX8_jewelOn_16 rfl 3 rfl ?_
  refine g_iast (n := n) (q := 18) B dX8_jewelOn_17 rfl (us_eq _ _ _) (fun g => cw_M hm g) (by decide) (by omega) (by omega) ?_
  refine g_eqS (us_us _ _ _ _) ?_
  refine g_aload_n (q := 19) B dX8_jewelOn_18 rfl 1 rfl ?_
  refine g_iconst (q := 20) B dX8_jewelOn_19 rfl ?_
  refine g_dup2 (q := 21) B dX8_jewelOn_20 rfl rfl rfl ?_
  refine g_iald (n := n) (q := 22) B dX8_jewelOn_21 rfl (us_eq _ _ _) (cw_M hm ((uq ((uq (S n) (6 + (S n 0)) k)) (22 + (S n 0)) w))) (by decide) (by omega) (by omega) ?_
  refine g_iconst (q := 23) B dX8_jewelOn_22 rfl ?_
  refine g_iadd (q := 24) B dX8_jewelOn_23 rfl ?_
  refine g_iast (n := n) (q := 25) B dX8_jewelOn_24 rfl (us_eq _ _ _) (fun g => cw_M hm g) (by decide) (by omega) (by omega) ?_
  refine g_eqS (us_us _ _ _ _) ?_
  refine g_aload_n (q := 26) B dX8_jewelOn_25 rfl 1 rfl ?_
  refine g_callS (q := 29) (As := [.ref (yA Y n)]) (st := []) B dX8_jewelOn_26 rfl (c_X8_free (l := xL X) (S := (us S n ((uq ((uq ((uq (S n) (6 + (S n 0)) k)) (22 + (S n 0)) w)) 0 (((uq ((uq (S n) (6 + (S n 0)) k)) (22 + (S n 0)) w) 0) + 1))))) hm   ) eX8_free w948 (by decide) rfl rfl (Nat.le_of_ble_eq_true rfl) (g_k0 (fun Sy hSy => ?_))
  obtain ⟨hvSy, hfSy⟩ := hSy
  refine g_iload_n (q := 30) B dX8_jewelOn_29 rfl 0 rfl ?_
  refine g_iret B E dX8_jewelOn_30 ?_
  refine ⟨rfl, ?_, fm_us.tr hfSy⟩
  rw [hvSy, mw_set, mwr_uq _ (by decide) (by decide), mwr_uq _ (by omega) (by omega), mwr_uq _ (by omega) (by omega), mwr_id, uq_ne _ _ (by omega), uq_ne _ _ (by omega)]
  rfl
set_option maxHeartbeats 4000000 in
theorem c_X8_exchangeOn {Y : gY} {l : Launch} {S : SS} {n : Nat} (hm : isM n) (hw : wf (mw S n)) (a b : Int) (a0 : 0 ≤ a) (a1 : a < S n 0) (b0 : 0 ≤ b) (b1 : b < S n 0) : gM Y l mX8_exchangeOn S [.ref (yA Y n), .int (iI a), .int (iI b)] (pV (.int (iI (gapF (swapF (mw S n) a b)))) (fun S' => mw S' n = swapF (mw S n) a b ∧ fm S S' n)) := by
  refine gM_of (by decide) (Nat.le_of_ble_eq_true rfl) ?_
  intro X hXl B E
  obtain ⟨⟨hn0, hn16⟩, ⟨hb0, hb1⟩, ⟨hm0, hm1⟩, ⟨hs0, hs1⟩, ⟨hc0, hc1⟩, hct, hkw, how⟩ := wfT hw
  show gW Y X S 0 [(0, .ref (yA Y n)), (1, .int (iI a)), (2, .int (iI b))] []
  refine g_aload_n (q := 1) B dX8_exchangeOn_0 rfl 0 rfl ?_
  refine g_bipush (q := 3) B dX8_exchangeOn_1 rfl (by decide) ?_
  refine g_iload_n (q := 4) B dX8_exchangeOn_3 rfl 1 rfl ?_
  refine g_iadd (q := 5) B dX8_exchangeOn_4 rfl ?_
  refine g_iald (n := n) (q := 6) B dX8_exchangeOn_5 rfl rfl (cw_M hm (S n)) (by decide) (by omega) (by omega) ?_
  refine g_istore_n (q := 7) B dX8_exchangeOn_6 rfl (by decide) (L' := [(3, .int (iI (S n (6 + a)))), (0, .ref (yA Y n)), (1, .int (iI a)), (2, .int (iI b))]) rfl ?_
  refine g_aload_n (q := 8) B dX8_exchangeOn_7 rfl 1 rfl ?_
  refine g_bipush (q := 10) B dX8_exchangeOn_8 rfl (by decide) ?_
  refine g_iload_n (q := 11) B dX8_exchangeOn_10 rfl 2 rfl ?_
  refine g_iadd (q := 12) B dX8_exchangeOn_11 rfl ?_
  refine g_iald (n := n) (q := 13) B dX8_exchangeOn_12 rfl rfl (cw_M hm (S n)) (by decide) (by omega) (by omega) ?_
  refine g_istore (q := 15) B dX8_exchangeOn_13 rfl (by decide) (L' := [(4, .int (iI (S n (22 + a)))), (3, .int (iI (S n (6 + a)))), (0, .ref (yA Y n)), (1, .int (iI a)), (2, .int (iI b))]) rfl ?_
  refine g_aload_n (q := 16) B dX8_exchangeOn_15 rfl 2 rfl ?_
  refine g_bipush (q := 18) B dX8_exchangeOn_16 rfl (by decide) ?_
  refine g_iload_n (q := 19) B dX8_exchangeOn_18 rfl 3 rfl ?_
  refine g_iadd (q := 20) B dX8_exchangeOn_19 rfl ?_
  refine g_aload_n (q := 21) B dX8_exchangeOn_20 rfl 2 rfl ?_
  refine g_bipush (q := 23) B dX8_exchangeOn_21 rfl (by decide) ?_
  refine g_iload_n (q := 24) B dX8_exchangeOn_23 rfl 4 rfl ?_
  refine g_iadd (q := 25) B dX8_exchangeOn_24 rfl ?_
  refine g_iald (n := n) (q := 26) B dX8_exchangeOn_25 rfl rfl (cw_M hm (S n)) (by decide) (by omega) (by omega) ?_
  refine g_iast (n := n) (q := 27) B dX8_exchangeOn_26 rfl rfl (fun g => cw_M hm g) (by decide) (by omega) (by omega) ?_
  refine g_aload_n (q := 28) B dX8_exchangeOn_27 rfl 2 rfl ?_
  refine g_bipush (q := 30) B dX8_exchangeOn_28 rfl (by decide) ?_
  refine g_iload_n (q := 31) B dX8_exchangeOn_30 rfl 3 rfl ?_
  refine g_iadd (q := 32) B dX8_exchangeOn_31 rfl ?_
  refine g_aload_n (q := 33) B dX8_exchangeOn_32 rfl 2 rfl ?_
  refine g_bipush (q := 35) B dX8_exchangeOn_33 rfl (by decide) ?_
  refine g_iload_n (q := 36) B dX8_exchangeOn_35 rfl 4 rfl ?_
  refine g_iadd (q := 37) B dX8_exchangeOn_36 rfl ?_
  refine g_iald (n := n) (q := 38) B dX8_exchangeOn_37 rfl (us_eq _ _ _) (cw_M hm ((uq (S n) (6 + a) (S n (6 + b))))) (by decide) (by omega) (by omega) ?_
  refine g_iast (n := n) (q := 39) B dX8_exchangeOn_38 rfl (us_eq _ _ _) (fun g => cw_M hm g) (by decide) (by omega) (by omega) ?_
  refine g_eqS (us_us _ _ _ _) ?_
  refine g_aload_n (q := 40) B dX8_exchangeOn_39 rfl 2 rfl ?_
  refine g_bipush (q := 42) B dX8_exchangeOn_40 rfl (by decide) ?_
  refine g_iload_n (q := 43) B dX8_exchangeOn_42 rfl 4 rfl ?_
  refine g_iadd (q := 44) B dX8_exchangeOn_43 rfl ?_
  refine g_iload_n (q := 45) B dX8_exchangeOn_44 rfl 1 rfl ?_
  refine g_iast (n := n) (q := 46) B dX8_exchangeOn_45 rfl (us_eq _ _ _) (fun g => cw_M hm g) (by decide) (by omega) (by omega) ?_
  refine g_eqS (us_us _ _ _ _) ?_
  refine g_aload_n (q := 47) B dX8_exchangeOn_46 rfl 2 rfl ?_
  refine g_bipush (q := 49) B dX8_exchangeOn_47 rfl (by decide) ?_
  refine g_iload_n (q := 50) B dX8_exchangeOn_49 rfl 4 rfl ?_
  refine g_iadd (q := 51) B dX8_exchangeOn_50 rfl ?_
  refine g_iload (q := 53) B dX8_exchangeOn_51 rfl 0 rfl ?_
  refine g_iast (n := n) (q := 54) B dX8_exchangeOn_53 rfl (us_eq _ _ _) (fun g => cw_M hm g) (by decide) (by omega) (by omega) ?_
  refine g_eqS (us_us _ _ _ _) ?_
  refine g_aload_n (q := 55) B dX8_exchangeOn_54 rfl 2 rfl ?_
  have hvx : mw (us S n ((uq ((uq ((uq ((uq (S n) (6 + a) (S n (6 + b)))) (22 + a) ((uq (S n) (6 + a) (S n (6 + b))) (22 + b)))) (6 + b) (S n (6 + a)))) (22 + b) (S n (22 + a))))) n = swapF (mw S n) a b := by
    rw [mw_set, mwr_uq _ (by omega) (by omega), mwr_uq _ (by omega) (by omega), mwr_uq _ (by omega) (by omega), mwr_uq _ (by omega) (by omega), mwr_id, swapF, mw_e S n (by omega) (by omega), mw_e S n (by omega) (by omega), mw_e S n (by omega) (by omega), mw_e S n (by omega) (by omega), uq_ne (S n) _ (by omega)]
  have hwx : wf (mw (us S n ((uq ((uq ((uq ((uq (S n) (6 + a) (S n (6 + b)))) (22 + a) ((uq (S n) (6 + a) (S n (6 + b))) (22 + b)))) (6 + b) (S n (6 + a)))) (22 + b) (S n (22 + a))))) n) := by rw [hvx]; exact wf_swap hw (by omega) (by rw [mw_0]; omega) (by omega) (by rw [mw_0]; omega)
  refine g_callS (q := 58) (As := [.ref (yA Y n)]) (st := []) B dX8_exchangeOn_55 rfl (c_X8_gap (l := xL X) (S := (us S n ((uq ((uq ((uq ((uq (S n) (6 + a) (S n (6 + b)))) (22 + a) ((uq (S n) (6 + a) (S n (6 + b))) (22 + b)))) (6 + b) (S n (6 + a)))) (22 + b) (S n (22 + a)))))) hm hwx  ) eX8_gap w1071 (by decide) rfl rfl (Nat.le_of_ble_eq_true rfl) (g_kE ?_)
  have := gapF_in hwx
  refine g_iret B E dX8_exchangeOn_58 ?_
  exact ⟨by rw [hvx], hvx, fm_us⟩
set_option maxHeartbeats 4000000 in
theorem c_X8_breakOn {Y : gY} {l : Launch} {S : SS} {n : Nat} (hm : isM n) (hw : wf (mw S n)) (j : Int) (h0 : 0 ≤ j) (h1 : j < S n 0) : gM Y l mX8_breakOn S [.ref (yA Y n), .int (iI j)] (pV (.int (iI (S n 1))) (fun S' => mw S' n = brkF (mw S n) j ∧ fm S S' n)) := by
  refine gM_of (by decide) (Nat.le_of_ble_eq_true rfl) ?_
  intro X hXl B E
  obtain ⟨⟨hn0, hn16⟩, ⟨hb0, hb1⟩, ⟨hm0, hm1⟩, ⟨hs0, hs1⟩, ⟨hc0, hc1⟩, hct, hkw, how⟩ := wfT hw
  show gW Y X S 0 [(0, .ref (yA Y n)), (1, .int (iI j))] []
  refine g_aload_n (q := 1) B dX8_breakOn_0 rfl 0 rfl ?_
  refine g_iconst (q := 2) B dX8_breakOn_1 rfl ?_
  refine g_iald (n := n) (q := 3) B dX8_breakOn_2 rfl rfl (cw_M hm (S n)) (by decide) (by omega) (by omega) ?_
  refine g_istore_n (q := 4) B dX8_breakOn_3 rfl (by decide) (L' := [(2, .int (iI (S n 1))), (0, .ref (yA Y n)), (1, .int (iI j))]) rfl ?_
  refine g_aload_n (q := 5) B dX8_breakOn_4 rfl 1 rfl ?_
  refine g_iconst (q := 6) B dX8_breakOn_5 rfl ?_
  refine g_iload_n (q := 7) B dX8_breakOn_6 rfl 2 rfl ?_
  refine g_iast (n := n) (q := 8) B dX8_breakOn_7 rfl rfl (fun g => cw_M hm g) (by decide) (by omega) (by omega) ?_
  refine g_aload_n (q := 9) B dX8_breakOn_8 rfl 1 rfl ?_
  refine g_callS (q := 12) (As := [.ref (yA Y n)]) (st := []) B dX8_breakOn_9 rfl (c_X8_free (l := xL X) (S := (us S n ((uq (S n) 1 j)))) hm   ) eX8_free w948 (by decide) rfl rfl (Nat.le_of_ble_eq_true rfl) (g_k0 (fun Sy hSy => ?_))
  obtain ⟨hvSy, hfSy⟩ := hSy
  refine g_iload_n (q := 13) B dX8_breakOn_12 rfl 0 rfl ?_
  refine g_iret B E dX8_breakOn_13 ?_
  exact ⟨rfl, by rw [hvSy, brkF, mw_us S n (by decide) (by decide)], fm_us.tr hfSy⟩
set_option maxHeartbeats 4000000 in
theorem c_X8_roundOn {Y : gY} {l : Launch} {S : SS} {n : Nat} (hm : isM n) (hw : wf (mw S n)) : gM Y l mX8_roundOn S [.ref (yA Y n)] (pV (.int (iI (S n 0))) (fun S' => mw S' n = revF (mw S n) ∧ fm S S' n)) := by
  refine gM_of (by decide) (Nat.le_of_ble_eq_true rfl) ?_
  intro X hXl B E
  obtain ⟨⟨hn0, hn16⟩, ⟨hb0, hb1⟩, ⟨hm0, hm1⟩, ⟨hs0, hs1⟩, ⟨hc0, hc1⟩, hct, hkw, how⟩ := wfT hw
  show gW Y X S 0 [(0, .ref (yA Y n))] []
  have lp2 : ∀ (fu : Nat) (m : Nat) (Sx : SS) (x1 : Int) , x1 = ((m : Int)) → (m : Int) ≤ S n 0 → mw Sx n = rotF (mw S n) m → fm S Sx n → 17 - m < fu → gW Y X Sx 2 [(0, .ref (yA Y n)), (1, .int (iI x1))] [] := by
    intro fu
    induction fu with
    | zero =>
      intro m Sx x1 e_x1 hmx hv hf hfu
      exact absurd hfu (Nat.not_lt_zero _)
    | succ fu ih =>
      intro m Sx x1 e_x1 hmx hv hf hfu
      subst e_x1
      have h0x : Sx n 0 = S n 0 := by have e := congrFun hv 0; rw [rotF_lo (mw S n) m hn16 (Or.inl (by decide))] at e; exact e
      have hwx : wf (mw Sx n) := by rw [hv]; exact wf_rot hw m
      refine g_iload_n (q := 3) B dX8_roundOn_2 rfl 1 rfl ?_
      refine g_aload_n (q := 4) B dX8_roundOn_3 rfl 0 rfl ?_
      refine g_iconst (q := 5) B dX8_roundOn_4 rfl ?_
      refine g_iald (n := n) (q := 6) B dX8_roundOn_5 rfl rfl (cw_M hm (Sx n)) (by decide) (by omega) (by omega) ?_
      refine g_iconst (q := 7) B dX8_roundOn_6 rfl ?_
      refine g_idiv (q := 8) B dX8_roundOn_7 rfl (by omega) (by omega) (by omega) (by omega) ?_
      refine g_icmp_ge (t := 30) (q := 11) B dX8_roundOn_8 (by decide) rfl ⟨by omega, by omega⟩ ⟨by omega, by omega⟩ (fun cq8 => ?_) (fun cq8 => ?_)
      · refine g_aload_n (q := 31) B dX8_roundOn_30 rfl 0 rfl ?_
        refine g_callS (q := 34) (As := [.ref (yA Y n)]) (st := []) B dX8_roundOn_31 rfl (c_X8_free (l := xL X) (S := Sx) hm   ) eX8_free w948 (by decide) rfl rfl (Nat.le_of_ble_eq_true rfl) (g_k0 (fun Sz hSz => ?_))
        obtain ⟨hvSz, hfSz⟩ := hSz
        refine g_aload_n (q := 35) B dX8_roundOn_34 rfl 0 rfl ?_
        refine g_iconst (q := 36) B dX8_roundOn_35 rfl ?_
        refine g_iald (n := n) (q := 37) B dX8_roundOn_36 rfl rfl (cw_M hm (Sz n)) (by decide) (by omega) (by omega) ?_
        refine g_iret B E dX8_roundOn_37 ?_
        have e0 : Sz n 0 = S n 0 := by
          have e := congrFun hvSz 0
          rw [freeF_lo _ (by decide) (by decide)] at e
          exact e.trans h0x
        refine ⟨by rw [e0], ?_, hf.tr hfSz⟩
        rw [hvSz, hv, revF, rot_end (g := mw S n) ⟨hn0, hn16⟩ (m := (m : Int)) (by rw [mw_0]; omega) (by rw [mw_0]; omega)]
      · refine g_aload_n (q := 12) B dX8_roundOn_11 rfl 0 rfl ?_
        refine g_iload_n (q := 13) B dX8_roundOn_12 rfl 1 rfl ?_
        refine g_aload_n (q := 14) B dX8_roundOn_13 rfl 0 rfl ?_
        refine g_iconst (q := 15) B dX8_roundOn_14 rfl ?_
        refine g_iald (n := n) (q := 16) B dX8_roundOn_15 rfl rfl (cw_M hm (Sx n)) (by decide) (by omega) (by omega) ?_
        refine g_iconst (q := 17) B dX8_roundOn_16 rfl ?_
        refine g_isub (q := 18) B dX8_roundOn_17 rfl ?_
        refine g_iload_n (q := 19) B dX8_roundOn_18 rfl 1 rfl ?_
        refine g_isub (q := 20) B dX8_roundOn_19 rfl ?_
        refine g_callS (q := 23) (As := [.ref (yA Y n), .int (iI ((m : Int))), .int (iI (((Sx n 0) - 1) - ((m : Int))))]) (st := []) B dX8_roundOn_20 rfl (c_X8_exchangeOn (l := xL X) (S := Sx) hm hwx ((m : Int)) (((Sx n 0) - 1) - ((m : Int))) (by omega) (by omega) (by omega) (by omega)) eX8_exchangeOn w1098 (by decide) rfl rfl (Nat.le_of_ble_eq_true rfl) (g_kV (fun Sy hSy => ?_))
        obtain ⟨hvSy, hfSy⟩ := hSy
        refine g_pop (q := 24) B dX8_roundOn_23 rfl rfl ?_
        refine g_iinc (n := 1) (q := 27) B dX8_roundOn_24 rfl rfl (by decide) (L' := [(1, .int (iI ((m : Int) + 1))), (0, .ref (yA Y n))]) rfl ?_
        refine g_goto (q := 2) B dX8_roundOn_27 (by decide) ?_
        refine g_sub [1, 0] rfl ?_
        exact ih (m + 1) Sy _ (by first | rfl | omega) (by first | assumption | omega) (by rw [hvSy, hv, h0x]; exact rot_s (g := mw S n) ⟨hn0, hn16⟩ (m := (m : Int)) (by omega) (by rw [mw_0]; omega)) (by exact hf.tr hfSy) (by omega)
  refine g_iconst (q := 1) B dX8_roundOn_0 rfl ?_
  refine g_istore_n (q := 2) B dX8_roundOn_1 rfl (by decide) (L' := [(1, .int (iI 0)), (0, .ref (yA Y n))]) rfl ?_
  refine g_sub [1, 0] rfl ?_
  exact lp2 _ 0 S _ (by first | rfl | omega) (by first | assumption | omega) (by exact (rotF_0 _).symm) (by exact fm.rf) (Nat.lt_succ_self _)
set_option maxHeartbeats 4000000 in
theorem c_X8_giveOn {Y : gY} {l : Launch} {S : SS} {n : Nat} (hm : isM n) (hw : wf (mw S n)) (r o : Int) (hr : rI r) (ho : -1 ≤ o ∧ o ≤ 1) : gM Y l mX8_giveOn S [.ref (yA Y n), .int (iI r), .int (iI o)] (pV (.int (iI (gapF (giveF (mw S n) r o)))) (fun S' => mw S' n = giveF (mw S n) r o ∧ fm S S' n)) := by
  refine gM_of (by decide) (Nat.le_of_ble_eq_true rfl) ?_
  intro X hXl B E
  obtain ⟨⟨hn0, hn16⟩, ⟨hb0, hb1⟩, ⟨hm0, hm1⟩, ⟨hs0, hs1⟩, ⟨hc0, hc1⟩, hct, hkw, how⟩ := wfT hw
  obtain ⟨hr0, hr1⟩ := hr
  have hwg := wf_give hw r ho
  show gW Y X S 0 [(0, .ref (yA Y n)), (1, .int (iI r)), (2, .int (iI o))] []
  have lp2 : ∀ (fu : Nat) (p : Nat) (Sx : SS) (x3 : Int) , x3 = ((p : Int)) → (p : Int) ≤ S n 0 → mw Sx n = givP (mw S n) r o p → fm S Sx n → (S n 0).toNat - p < fu → gW Y X Sx 2 [(0, .ref (yA Y n)), (1, .int (iI r)), (2, .int (iI o)), (3, .int (iI x3))] [] := by
    intro fu
    induction fu with
    | zero =>
      intro p Sx x3 e_x3 hp hv hf hfu
      exact absurd hfu (Nat.not_lt_zero _)
    | succ fu ih =>
      intro p Sx x3 e_x3 hp hv hf hfu
      subst e_x3
      have h0x : Sx n 0 = S n 0 := by have e := congrFun hv 0; rw [givP, if_neg (by omega)] at e; exact e
      have h5x : Sx n 5 = S n 5 := by have e := congrFun hv 5; rw [givP, if_neg (by omega)] at e; exact e
      have hbx : wb (mw Sx n) := wb_of (wf.b hw) h0x h5x
      have hrn : runF (mw Sx n) p = runF (mw S n) p := runF_congr h5x _
      refine g_iload_n (q := 3) B dX8_giveOn_2 rfl 3 rfl ?_
      refine g_aload_n (q := 4) B dX8_giveOn_3 rfl 0 rfl ?_
      refine g_iconst (q := 5) B dX8_giveOn_4 rfl ?_
      refine g_iald (n := n) (q := 6) B dX8_giveOn_5 rfl rfl (cw_M hm (Sx n)) (by decide) (by omega) (by omega) ?_
      refine g_icmp_ge (t := 40) (q := 9) B dX8_giveOn_6 (by decide) rfl ⟨by omega, by omega⟩ ⟨by omega, by omega⟩ (fun cq6 => ?_) (fun cq6 => ?_)
      · refine g_aload_n (q := 41) B dX8_giveOn_40 rfl 0 rfl ?_
        have hwz : wf (mw Sx n) := by rw [hv, givP_n _ (by rw [mw_0]; omega)]; exact hwg
        refine g_callS (q := 44) (As := [.ref (yA Y n)]) (st := []) B dX8_giveOn_41 rfl (c_X8_gap (l := xL X) (S := Sx) hm hwz  ) eX8_gap w1071 (by decide) rfl rfl (Nat.le_of_ble_eq_true rfl) (g_kE ?_)
        have := gapF_in hwz
        refine g_iret B E dX8_giveOn_44 ?_
        exact ⟨by rw [hv, givP_n _ (by rw [mw_0]; omega)], by rw [hv, givP_n _ (by rw [mw_0]; omega)], hf⟩
      · refine g_aload_n (q := 10) B dX8_giveOn_9 rfl 0 rfl ?_
        refine g_bipush (q := 12) B dX8_giveOn_10 rfl (by decide) ?_
        refine g_iload_n (q := 13) B dX8_giveOn_12 rfl 3 rfl ?_
        refine g_iadd (q := 14) B dX8_giveOn_13 rfl ?_
        refine g_aload_n (q := 15) B dX8_giveOn_14 rfl 0 rfl ?_
        refine g_iload_n (q := 16) B dX8_giveOn_15 rfl 3 rfl ?_
        refine g_callS (q := 19) (As := [.ref (yA Y n), .int (iI ((p : Int)))]) (st := [.int (iI (38 + ((p : Int)))), .ref (yA Y n)]) B dX8_giveOn_16 rfl (c_X8_runAt (l := xL X) (S := Sx) hm hbx ((p : Int)) (by omega) (by omega)) eX8_runAt w1056 (by decide) rfl rfl (Nat.le_of_ble_eq_true rfl) (g_kE ?_)
        have := runF_in (mw Sx n) (p := ((p : Int))) (by omega)
        refine g_iload_n (q := 20) B dX8_giveOn_19 rfl 1 rfl ?_
        refine g_icmp_ne (t := 27) (q := 23) B dX8_giveOn_20 (by decide) rfl ⟨by omega, by omega⟩ ⟨by omega, by omega⟩ (fun cq20 => ?_) (fun cq20 => ?_)
        · refine g_aload_n (q := 28) B dX8_giveOn_27 rfl 0 rfl ?_
          refine g_bipush (q := 30) B dX8_giveOn_28 rfl (by decide) ?_
          refine g_iload_n (q := 31) B dX8_giveOn_30 rfl 3 rfl ?_
          refine g_iadd (q := 32) B dX8_giveOn_31 rfl ?_
          refine g_iald (n := n) (q := 33) B dX8_giveOn_32 rfl rfl (cw_M hm (Sx n)) (by decide) (by omega) (by omega) ?_
          refine g_iast (n := n) (q := 34) B dX8_giveOn_33 rfl rfl (fun g => cw_M hm g) (by decide) (by omega) (by omega) ?_
          refine g_iinc (n := 3) (q := 37) B dX8_giveOn_34 rfl rfl (by decide) (L' := [(3, .int (iI ((p : Int) + 1))), (0, .ref (yA Y n)), (1, .int (iI r)), (2, .int (iI o))]) rfl ?_
          refine g_goto (q := 2) B dX8_giveOn_37 (by decide) ?_
          refine g_sub [1, 2, 3, 0] rfl ?_
          exact ih (p + 1) _ _ (by first | rfl | omega) (by first | assumption | omega) (by rw [mw_us Sx n (by omega) (by omega), hv, ← givP_f _ (by rw [← hrn]; exact cq20), ← mw_e Sx n (by omega) (by omega), hv, uq_self]) (by exact hf.tr fm_us) (by omega)
        · refine g_iload_n (q := 24) B dX8_giveOn_23 rfl 2 rfl ?_
          refine g_goto (q := 33) B dX8_giveOn_24 (by decide) ?_
          refine g_iast (n := n) (q := 34) B dX8_giveOn_33 rfl rfl (fun g => cw_M hm g) (by decide) (by omega) (by omega) ?_
          refine g_iinc (n := 3) (q := 37) B dX8_giveOn_34 rfl rfl (by decide) (L' := [(3, .int (iI ((p : Int) + 1))), (0, .ref (yA Y n)), (1, .int (iI r)), (2, .int (iI o))]) rfl ?_
          refine g_goto (q := 2) B dX8_giveOn_37 (by decide) ?_
          refine g_sub [1, 2, 3, 0] rfl ?_
          exact ih (p + 1) _ _ (by first | rfl | omega) (by first | assumption | omega) (by rw [mw_us Sx n (by omega) (by omega), hv, givP_t _ (by rw [← hrn]; exact cq20)]) (by exact hf.tr fm_us) (by omega)
  refine g_iconst (q := 1) B dX8_giveOn_0 rfl ?_
  refine g_istore_n (q := 2) B dX8_giveOn_1 rfl (by decide) (L' := [(3, .int (iI 0)), (0, .ref (yA Y n)), (1, .int (iI r)), (2, .int (iI o))]) rfl ?_
  refine g_sub [1, 2, 3, 0] rfl ?_
  exact lp2 _ 0 S _ (by first | rfl | omega) (by first | assumption | omega) (by exact (givP_0 _ _ _).symm) (by exact fm.rf) (Nat.lt_succ_self _)
set_option maxHeartbeats 4000000 in
theorem c_X8_dealOn {Y : gY} {l : Launch} {S : SS} {n : Nat} (hm : isM n) (hq : wb (mw S n)) (s : Int) (hs : 0 ≤ s ∧ s ≤ 1) (hwg : wf (dealF (mw S n) s)) : gM Y l mX8_dealOn S [.ref (yA Y n), .int (iI s)] (pV (.int (iI (gapF (dealF (mw S n) s)))) (fun S' => mw S' n = dealF (mw S n) s ∧ fm S S' n)) := by
  refine gM_of (by decide) (Nat.le_of_ble_eq_true rfl) ?_
  intro X hXl B E
  obtain ⟨⟨⟨hn0, hn16⟩, hc0, hc1⟩, hct0⟩ : ((0 ≤ S n 0 ∧ S n 0 ≤ 16) ∧ 0 ≤ S n 5 ∧ S n 5 < 65536) ∧ (S n 5).toNat.testBit 0 = false := id hq
  show gW Y X S 0 [(0, .ref (yA Y n)), (1, .int (iI s))] []
  have lp2 : ∀ (fu : Nat) (p : Nat) (Sx : SS) (x2 : Int) , x2 = ((p : Int)) → (p : Int) ≤ S n 0 → mw Sx n = deaP (mw S n) s p → fm S Sx n → (S n 0).toNat - p < fu → gW Y X Sx 2 [(0, .ref (yA Y n)), (1, .int (iI s)), (2, .int (iI x2))] [] := by
    intro fu
    induction fu with
    | zero =>
      intro p Sx x2 e_x2 hp hv hf hfu
      exact absurd hfu (Nat.not_lt_zero _)
    | succ fu ih =>
      intro p Sx x2 e_x2 hp hv hf hfu
      subst e_x2
      have h0x : Sx n 0 = S n 0 := by have e := congrFun hv 0; rw [deaP, if_neg (by omega)] at e; exact e
      have h5x : Sx n 5 = S n 5 := by have e := congrFun hv 5; rw [deaP, if_neg (by omega)] at e; exact e
      have hbx : wb (mw Sx n) := wb_of hq h0x h5x
      have hrn : runF (mw Sx n) p = runF (mw S n) p := runF_congr h5x _
      refine g_iload_n (q := 3) B dX8_dealOn_2 rfl 2 rfl ?_
      refine g_aload_n (q := 4) B dX8_dealOn_3 rfl 0 rfl ?_
      refine g_iconst (q := 5) B dX8_dealOn_4 rfl ?_
      refine g_iald (n := n) (q := 6) B dX8_dealOn_5 rfl rfl (cw_M hm (Sx n)) (by decide) (by omega) (by omega) ?_
      refine g_icmp_ge (t := 30) (q := 9) B dX8_dealOn_6 (by decide) rfl ⟨by omega, by omega⟩ ⟨by omega, by omega⟩ (fun cq6 => ?_) (fun cq6 => ?_)
      · refine g_aload_n (q := 31) B dX8_dealOn_30 rfl 0 rfl ?_
        have hwz : wf (mw Sx n) := by rw [hv, deaP_n _ (by rw [mw_0]; omega)]; exact hwg
        refine g_callS (q := 34) (As := [.ref (yA Y n)]) (st := []) B dX8_dealOn_31 rfl (c_X8_gap (l := xL X) (S := Sx) hm hwz  ) eX8_gap w1071 (by decide) rfl rfl (Nat.le_of_ble_eq_true rfl) (g_kE ?_)
        have := gapF_in hwz
        refine g_iret B E dX8_dealOn_34 ?_
        exact ⟨by rw [hv, deaP_n _ (by rw [mw_0]; omega)], by rw [hv, deaP_n _ (by rw [mw_0]; omega)], hf⟩
      · refine g_aload_n (q := 10) B dX8_dealOn_9 rfl 0 rfl ?_
        refine g_bipush (q := 12) B dX8_dealOn_10 rfl (by decide) ?_
        refine g_iload_n (q := 13) B dX8_dealOn_12 rfl 2 rfl ?_
        refine g_iadd (q := 14) B dX8_dealOn_13 rfl ?_
        refine g_iload_n (q := 15) B dX8_dealOn_14 rfl 1 rfl ?_
        refine g_aload_n (q := 16) B dX8_dealOn_15 rfl 0 rfl ?_
        refine g_iload_n (q := 17) B dX8_dealOn_16 rfl 2 rfl ?_
        refine g_callS (q := 20) (As := [.ref (yA Y n), .int (iI ((p : Int)))]) (st := [.int (iI s), .int (iI (38 + ((p : Int)))), .ref (yA Y n)]) B dX8_dealOn_17 rfl (c_X8_runAt (l := xL X) (S := Sx) hm hbx ((p : Int)) (by omega) (by omega)) eX8_runAt w1056 (by decide) rfl rfl (Nat.le_of_ble_eq_true rfl) (g_kE ?_)
        have := runF_in (mw Sx n) (p := ((p : Int))) (by omega)
        refine g_iadd (q := 21) B dX8_dealOn_20 rfl ?_
        refine g_iconst (q := 22) B dX8_dealOn_21 rfl ?_
        refine g_irem (q := 23) B dX8_dealOn_22 rfl (by omega) (by omega) (by omega) (by omega) ?_
        refine g_iast (n := n) (q := 24) B dX8_dealOn_23 rfl rfl (fun g => cw_M hm g) (by decide) (by omega) (by omega) ?_
        refine g_iinc (n := 2) (q := 27) B dX8_dealOn_24 rfl rfl (by decide) (L' := [(2, .int (iI ((p : Int) + 1))), (0, .ref (yA Y n)), (1, .int (iI s))]) rfl ?_
        refine g_goto (q := 2) B dX8_dealOn_27 (by decide) ?_
        refine g_sub [1, 2, 0] rfl ?_
        exact ih (p + 1) _ _ (by first | rfl | omega) (by first | assumption | omega) (by rw [mw_us Sx n (by omega) (by omega), hrn, hv, deaP_s]) (by exact hf.tr fm_us) (by omega)
  refine g_iconst (q := 1) B dX8_dealOn_0 rfl ?_
  refine g_istore_n (q := 2) B dX8_dealOn_1 rfl (by decide) (L' := [(2, .int (iI 0)), (0, .ref (yA Y n)), (1, .int (iI s))]) rfl ?_
  refine g_sub [1, 2, 0] rfl ?_
  exact lp2 _ 0 S _ (by first | rfl | omega) (by first | assumption | omega) (by exact (deaP_0 _ _).symm) (by exact fm.rf) (Nat.lt_succ_self _)
set_option maxHeartbeats 4000000 in
theorem c_X8_takeOn {Y : gY} {l : Launch} {S : SS} {n : Nat} (hm : isM n) (hw : wf (mw S n)) (r : Int) (h0 : 0 ≤ r) (h1 : r < runsF (mw S n)) : gM Y l mX8_takeOn S [.ref (yA Y n), .int (iI r)] (pV (.int (iI (whyF (mw S n) r))) (fun S' => mw S' n = takeM (mw S n) r ∧ fm S S' n)) := by
  refine gM_of (by decide) (Nat.le_of_ble_eq_true rfl) ?_
  intro X hXl B E
  obtain ⟨⟨hn0, hn16⟩, ⟨hb0, hb1⟩, ⟨hm0, hm1⟩, ⟨hs0, hs1⟩, ⟨hc0, hc1⟩, hct, hkw, how⟩ := wfT hw
  have hrr := runsF_in (mw S n)
  show gW Y X S 0 [(0, .ref (yA Y n)), (1, .int (iI r))] []
  refine g_aload_n (q := 1) B dX8_takeOn_0 rfl 0 rfl ?_
  refine g_iload_n (q := 2) B dX8_takeOn_1 rfl 1 rfl ?_
  refine g_callS (q := 5) (As := [.ref (yA Y n), .int (iI r)]) (st := []) B dX8_takeOn_2 rfl (c_X8_whyNot (l := xL X) (S := S) hm hw r (by omega) (by omega)) eX8_whyNot w1083 (by decide) rfl rfl (Nat.le_of_ble_eq_true rfl) (g_kE ?_)
  have := whyF_in (mw S n) r
  refine g_istore_n (q := 6) B dX8_takeOn_5 rfl (by decide) (L' := [(2, .int (iI (whyF (mw S n) r))), (0, .ref (yA Y n)), (1, .int (iI r))]) rfl ?_
  refine g_iload_n (q := 7) B dX8_takeOn_6 rfl 0 rfl ?_
  refine g_if_ne (t := 30) (q := 10) B dX8_takeOn_7 (by decide) rfl ⟨by omega, by omega⟩ (fun cq7 => ?_) (fun cq7 => ?_)
  · refine g_aload_n (q := 31) B dX8_takeOn_30 rfl 1 rfl ?_
    refine g_iconst (q := 32) B dX8_takeOn_31 rfl ?_
    refine g_dup2 (q := 33) B dX8_takeOn_32 rfl rfl rfl ?_
    refine g_iald (n := n) (q := 34) B dX8_takeOn_33 rfl rfl (cw_M hm (S n)) (by decide) (by omega) (by omega) ?_
    refine g_iconst (q := 35) B dX8_takeOn_34 rfl ?_
    refine g_iadd (q := 36) B dX8_takeOn_35 rfl ?_
    refine g_iast (n := n) (q := 37) B dX8_takeOn_36 rfl rfl (fun g => cw_M hm g) (by decide) (by omega) (by omega) ?_
    refine g_iload_n (q := 38) B dX8_takeOn_37 rfl 0 rfl ?_
    refine g_iret B E dX8_takeOn_38 ?_
    refine ⟨rfl, ?_, fm_us⟩
    rw [takeM, if_neg cq7, mw_us S n (by decide) (by decide)]
    rfl
  · refine g_aload_n (q := 11) B dX8_takeOn_10 rfl 1 rfl ?_
    refine g_iload_n (q := 12) B dX8_takeOn_11 rfl 2 rfl ?_
    refine g_aload_n (q := 13) B dX8_takeOn_12 rfl 1 rfl ?_
    refine g_iconst (q := 14) B dX8_takeOn_13 rfl ?_
    refine g_iald (n := n) (q := 15) B dX8_takeOn_14 rfl rfl (cw_M hm (S n)) (by decide) (by omega) (by omega) ?_
    refine g_callS (q := 18) (As := [.ref (yA Y n), .int (iI r), .int (iI (S n 2))]) (st := []) B dX8_takeOn_15 rfl (c_X8_giveOn (l := xL X) (S := S) hm hw r (S n 2) ⟨by omega, by omega⟩ ⟨by omega, by omega⟩) eX8_giveOn w1068 (by decide) rfl rfl (Nat.le_of_ble_eq_true rfl) (g_kV (fun Sy hSy => ?_))
    obtain ⟨hvSy, hfSy⟩ := hSy
    have := gapF_in (wf_give hw r (o := (S n 2)) (by omega))
    have e2 : Sy n 2 = S n 2 := by have e := congrFun hvSy 2; rw [giveF_lo _ _ _ (by decide)] at e; exact e
    refine g_pop (q := 19) B dX8_takeOn_18 rfl rfl ?_
    refine g_aload_n (q := 20) B dX8_takeOn_19 rfl 1 rfl ?_
    refine g_iconst (q := 21) B dX8_takeOn_20 rfl ?_
    refine g_iconst (q := 22) B dX8_takeOn_21 rfl ?_
    refine g_aload_n (q := 23) B dX8_takeOn_22 rfl 1 rfl ?_
    refine g_iconst (q := 24) B dX8_takeOn_23 rfl ?_
    refine g_iald (n := n) (q := 25) B dX8_takeOn_24 rfl rfl (cw_M hm (Sy n)) (by decide) (by omega) (by omega) ?_
    refine g_isub (q := 26) B dX8_takeOn_25 rfl ?_
    refine g_iast (n := n) (q := 27) B dX8_takeOn_26 rfl rfl (fun g => cw_M hm g) (by decide) (by omega) (by omega) ?_
    refine g_goto (q := 37) B dX8_takeOn_27 (by decide) ?_
    refine g_iload_n (q := 38) B dX8_takeOn_37 rfl 0 rfl ?_
    refine g_iret B E dX8_takeOn_38 ?_
    refine ⟨rfl, ?_, hfSy.tr fm_us⟩
    rw [takeM, if_pos cq7, takeF, mw_us Sy n (by decide) (by decide), hvSy, e2]
    rfl
set_option maxHeartbeats 4000000 in
theorem c_X8_cutOn {Y : gY} {l : Launch} {S : SS} {n : Nat} (hm : isM n) (hw : wf (mw S n)) (p b : Int) (h0 : 1 ≤ p) (h1 : p < S n 0) (hb : b = 0 ∨ b = 1) : gM Y l mX8_cutOn S [.ref (yA Y n), .int (iI p), .int (iI b)] (pV (.int (iI (runsF (cutF (mw S n) p (b = 1))))) (fun S' => mw S' n = cutF (mw S n) p (b = 1) ∧ fm S S' n)) := by
  refine gM_of (by decide) (Nat.le_of_ble_eq_true rfl) ?_
  intro X hXl B E
  obtain ⟨⟨hn0, hn16⟩, ⟨hb0, hb1⟩, ⟨hm0, hm1⟩, ⟨hs0, hs1⟩, ⟨hc0, hc1⟩, hct, hkw, how⟩ := wfT hw
  have hpw := pow2_lt (p := p) (by omega)
  have e2p : (1 : Int) * 2 ^ p.toNat = ((2 ^ p.toNat : Nat) : Int) := by rw [Int.one_mul]; exact (Int.natCast_pow 2 _).symm
  have ecu : S n 5 = (((S n 5).toNat : Nat) : Int) := by omega
  have hwf : wf (cutF (mw S n) p (b = 1)) := by have := wf_cutG hw p b; rw [cutG, if_pos (by rw [mw_0]; omega)] at this; exact this
  show gW Y X S 0 [(0, .ref (yA Y n)), (1, .int (iI p)), (2, .int (iI b))] []
  have lp31 : ∀ (fu : Nat) (q : Nat) (Sx : SS) (x3 x4 x5 : Int) , x3 = (S n (38 + (p - 1))) → x4 = (runF (mw S n) p) → x5 = ((q : Int)) → p ≤ (q : Int) → (q : Int) ≤ S n 0 → mw Sx n = unP (mw S n) p q → fm S Sx n → b = 0 → (S n 5).toNat.testBit p.toNat = true → (S n 0).toNat - q < fu → gW Y X Sx 31 [(0, .ref (yA Y n)), (1, .int (iI p)), (2, .int (iI b)), (3, .int (iI x3)), (4, .int (iI x4)), (5, .int (iI x5))] [] := by
    intro fu
    induction fu with
    | zero =>
      intro q Sx x3 x4 x5 e_x3 e_x4 e_x5 hq0 hq hv hf hb0 hbt hfu
      exact absurd hfu (Nat.not_lt_zero _)
    | succ fu ih =>
      intro q Sx x3 x4 x5 e_x3 e_x4 e_x5 hq0 hq hv hf hb0 hbt hfu
      subst e_x3
      subst e_x4
      subst e_x5
      have h0x : Sx n 0 = S n 0 := by have e := congrFun hv 0; rw [unP, if_neg (by omega)] at e; exact e
      have h5x : Sx n 5 = S n 5 := by have e := congrFun hv 5; rw [unP, if_neg (by omega)] at e; exact e
      have hbx : wb (mw Sx n) := wb_of (wf.b hw) h0x h5x
      have hrn : runF (mw Sx n) q = runF (mw S n) q := runF_congr h5x _
      have hrp := runF_in (mw S n) (p := p) (by omega)
      refine g_iload (q := 33) B dX8_cutOn_31 rfl 5 rfl ?_
      refine g_aload_n (q := 34) B dX8_cutOn_33 rfl 0 rfl ?_
      refine g_iconst (q := 35) B dX8_cutOn_34 rfl ?_
      refine g_iald (n := n) (q := 36) B dX8_cutOn_35 rfl rfl (cw_M hm (Sx n)) (by decide) (by omega) (by omega) ?_
      refine g_icmp_ge (t := 74) (q := 39) B dX8_cutOn_36 (by decide) rfl ⟨by omega, by omega⟩ ⟨by omega, by omega⟩ (fun cq36 => ?_) (fun cq36 => ?_)
      · refine g_aload_n (q := 75) B dX8_cutOn_74 rfl 0 rfl ?_
        refine g_iconst (q := 76) B dX8_cutOn_75 rfl ?_
        refine g_iload_n (q := 77) B dX8_cutOn_76 rfl 2 rfl ?_
        refine g_if_eq (t := 90) (q := 80) B dX8_cutOn_77 (by decide) rfl ⟨by omega, by omega⟩ (fun cq77 => ?_) (fun cq77 => ?_)
        · refine g_aload_n (q := 91) B dX8_cutOn_90 rfl 0 rfl ?_
          refine g_iconst (q := 92) B dX8_cutOn_91 rfl ?_
          refine g_iald (n := n) (q := 93) B dX8_cutOn_92 rfl rfl (cw_M hm (Sx n)) (by decide) (by omega) (by omega) ?_
          refine g_iconst (q := 94) B dX8_cutOn_93 rfl ?_
          refine g_iload_n (q := 95) B dX8_cutOn_94 rfl 1 rfl ?_
          refine g_ishl (v := (iI (1 * 2 ^ p.toNat))) (q := 96) B dX8_cutOn_95 rfl (iI_shl (by omega) (by omega) (by omega) (by omega)) ?_
          refine g_iconst (q := 97) B dX8_cutOn_96 rfl ?_
          refine g_ixor (v := (iI (1 * 2 ^ p.toNat) ^^^ iI (-1))) (q := 98) B dX8_cutOn_97 rfl (rfl) ?_
          refine g_iand (v := (iI ((((S n 5).toNat ^^^ 2 ^ p.toNat : Nat) : Int)))) (q := 99) B dX8_cutOn_98 rfl (by rw [h5x]; exact clr_bit hc0 hc1 (by omega) (by omega) hbt) ?_
          refine g_iast (n := n) (q := 100) B dX8_cutOn_99 rfl rfl (fun g => cw_M hm g) (by decide) (by omega) (by omega) ?_
          refine g_aload_n (q := 101) B dX8_cutOn_100 rfl 0 rfl ?_
          have hvx : mw (us Sx n ((uq (Sx n) 5 ((((S n 5).toNat ^^^ 2 ^ p.toNat : Nat) : Int))))) n = cutF (mw S n) p (b = 1) := by
            rw [mw_us Sx n (by decide) (by decide), hv, cutF, if_neg (by omega)]
            exact unP_n hw h0 (by rw [mw_0]; exact h1) hbt (by rw [mw_0]; omega)
          refine g_callS (q := 104) (As := [.ref (yA Y n)]) (st := []) B dX8_cutOn_101 rfl (c_X8_runs (l := xL X) (S := (us Sx n ((uq (Sx n) 5 ((((S n 5).toNat ^^^ 2 ^ p.toNat : Nat) : Int)))))) hm (by rw [hvx]; exact hwf.b)  ) eX8_runs w1059 (by decide) rfl rfl (Nat.le_of_ble_eq_true rfl) (g_kE ?_)
          have := runsF_in (mw (us Sx n ((uq (Sx n) 5 ((((S n 5).toNat ^^^ 2 ^ p.toNat : Nat) : Int))))) n)
          refine g_iret B E dX8_cutOn_104 ?_
          exact ⟨by rw [hvx], hvx, hf.tr fm_us⟩
        · exact absurd cq77 (by omega)
      · refine g_aload_n (q := 40) B dX8_cutOn_39 rfl 0 rfl ?_
        refine g_bipush (q := 42) B dX8_cutOn_40 rfl (by decide) ?_
        refine g_iload (q := 44) B dX8_cutOn_42 rfl 5 rfl ?_
        refine g_iadd (q := 45) B dX8_cutOn_44 rfl ?_
        refine g_aload_n (q := 46) B dX8_cutOn_45 rfl 0 rfl ?_
        refine g_iload (q := 48) B dX8_cutOn_46 rfl 5 rfl ?_
        refine g_callS (q := 51) (As := [.ref (yA Y n), .int (iI ((q : Int)))]) (st := [.int (iI (38 + ((q : Int)))), .ref (yA Y n)]) B dX8_cutOn_48 rfl (c_X8_runAt (l := xL X) (S := Sx) hm hbx ((q : Int)) (by omega) (by omega)) eX8_runAt w1056 (by decide) rfl rfl (Nat.le_of_ble_eq_true rfl) (g_kE ?_)
        have := runF_in (mw Sx n) (p := ((q : Int))) (by omega)
        refine g_iload (q := 53) B dX8_cutOn_51 rfl 4 rfl ?_
        refine g_icmp_ne (t := 60) (q := 56) B dX8_cutOn_53 (by decide) rfl ⟨by omega, by omega⟩ ⟨by omega, by omega⟩ (fun cq53 => ?_) (fun cq53 => ?_)
        · refine g_aload_n (q := 61) B dX8_cutOn_60 rfl 0 rfl ?_
          refine g_bipush (q := 63) B dX8_cutOn_61 rfl (by decide) ?_
          refine g_iload (q := 65) B dX8_cutOn_63 rfl 5 rfl ?_
          refine g_iadd (q := 66) B dX8_cutOn_65 rfl ?_
          refine g_iald (n := n) (q := 67) B dX8_cutOn_66 rfl rfl (cw_M hm (Sx n)) (by decide) (by omega) (by omega) ?_
          refine g_iast (n := n) (q := 68) B dX8_cutOn_67 rfl rfl (fun g => cw_M hm g) (by decide) (by omega) (by omega) ?_
          refine g_iinc (n := 5) (q := 71) B dX8_cutOn_68 rfl rfl (by decide) (L' := [(5, .int (iI ((q : Int) + 1))), (0, .ref (yA Y n)), (1, .int (iI p)), (2, .int (iI b)), (3, .int (iI (S n (38 + (p - 1))))), (4, .int (iI (runF (mw S n) p)))]) rfl ?_
          refine g_goto (q := 31) B dX8_cutOn_71 (by decide) ?_
          refine g_sub [1, 2, 3, 4, 5, 0] rfl ?_
          exact ih (q + 1) _ _ _ _ (by first | rfl | omega) (by first | rfl | omega) (by first | rfl | omega) (by first | assumption | omega) (by first | assumption | omega) (by rw [mw_us Sx n (by omega) (by omega), hv, ← unP_f _ (by rw [← hrn]; exact cq53), ← mw_e Sx n (by omega) (by omega), hv, uq_self]) (by exact hf.tr fm_us) (by first | assumption | omega) (by first | assumption | omega) (by omega)
        · refine g_iload_n (q := 57) B dX8_cutOn_56 rfl 3 rfl ?_
          refine g_goto (q := 67) B dX8_cutOn_57 (by decide) ?_
          refine g_iast (n := n) (q := 68) B dX8_cutOn_67 rfl rfl (fun g => cw_M hm g) (by decide) (by omega) (by omega) ?_
          refine g_iinc (n := 5) (q := 71) B dX8_cutOn_68 rfl rfl (by decide) (L' := [(5, .int (iI ((q : Int) + 1))), (0, .ref (yA Y n)), (1, .int (iI p)), (2, .int (iI b)), (3, .int (iI (S n (38 + (p - 1))))), (4, .int (iI (runF (mw S n) p)))]) rfl ?_
          refine g_goto (q := 31) B dX8_cutOn_71 (by decide) ?_
          refine g_sub [1, 2, 3, 4, 5, 0] rfl ?_
          exact ih (q + 1) _ _ _ _ (by first | rfl | omega) (by first | rfl | omega) (by first | rfl | omega) (by first | assumption | omega) (by first | assumption | omega) (by rw [mw_us Sx n (by omega) (by omega), hv, ← mw_e S n (by omega) (by omega), unP_t _ hq0 (by rw [← hrn]; exact cq53)]) (by exact hf.tr fm_us) (by first | assumption | omega) (by first | assumption | omega) (by omega)
  refine g_iload_n (q := 1) B dX8_cutOn_0 rfl 2 rfl ?_
  refine g_if_ne (t := 74) (q := 4) B dX8_cutOn_1 (by decide) rfl ⟨by omega, by omega⟩ (fun cq1 => ?_) (fun cq1 => ?_)
  · refine g_aload_n (q := 75) B dX8_cutOn_74 rfl 0 rfl ?_
    refine g_iconst (q := 76) B dX8_cutOn_75 rfl ?_
    refine g_iload_n (q := 77) B dX8_cutOn_76 rfl 2 rfl ?_
    refine g_if_eq (t := 90) (q := 80) B dX8_cutOn_77 (by decide) rfl ⟨by omega, by omega⟩ (fun cq77 => ?_) (fun cq77 => ?_)
    · exact absurd cq77 (by omega)
    · refine g_aload_n (q := 81) B dX8_cutOn_80 rfl 0 rfl ?_
      refine g_iconst (q := 82) B dX8_cutOn_81 rfl ?_
      refine g_iald (n := n) (q := 83) B dX8_cutOn_82 rfl rfl (cw_M hm (S n)) (by decide) (by omega) (by omega) ?_
      refine g_iconst (q := 84) B dX8_cutOn_83 rfl ?_
      refine g_iload_n (q := 85) B dX8_cutOn_84 rfl 1 rfl ?_
      refine g_ishl (v := (iI (1 * 2 ^ p.toNat))) (q := 86) B dX8_cutOn_85 rfl (iI_shl (by omega) (by omega) (by omega) (by omega)) ?_
      refine g_ior (v := (iI ((((S n 5).toNat ||| 2 ^ p.toNat : Nat) : Int)))) (q := 87) B dX8_cutOn_86 rfl (by rw [ecu, e2p]; exact iI_orN _ _) ?_
      refine g_goto (q := 99) B dX8_cutOn_87 (by decide) ?_
      refine g_iast (n := n) (q := 100) B dX8_cutOn_99 rfl rfl (fun g => cw_M hm g) (by decide) (by omega) (by omega) ?_
      refine g_aload_n (q := 101) B dX8_cutOn_100 rfl 0 rfl ?_
      have hvx : mw (us S n ((uq (S n) 5 ((((S n 5).toNat ||| 2 ^ p.toNat : Nat) : Int))))) n = cutF (mw S n) p (b = 1) := by
        rw [mw_us S n (by decide) (by decide), cutF, if_pos (by omega)]
        rfl
      refine g_callS (q := 104) (As := [.ref (yA Y n)]) (st := []) B dX8_cutOn_101 rfl (c_X8_runs (l := xL X) (S := (us S n ((uq (S n) 5 ((((S n 5).toNat ||| 2 ^ p.toNat : Nat) : Int)))))) hm (by rw [hvx]; exact hwf.b)  ) eX8_runs w1059 (by decide) rfl rfl (Nat.le_of_ble_eq_true rfl) (g_kE ?_)
      have := runsF_in (mw (us S n ((uq (S n) 5 ((((S n 5).toNat ||| 2 ^ p.toNat : Nat) : Int))))) n)
      refine g_iret B E dX8_cutOn_104 ?_
      exact ⟨by rw [hvx], hvx, fm_us⟩
  · refine g_aload_n (q := 5) B dX8_cutOn_4 rfl 0 rfl ?_
    refine g_iload_n (q := 6) B dX8_cutOn_5 rfl 1 rfl ?_
    refine g_callS (q := 9) (As := [.ref (yA Y n), .int (iI p)]) (st := []) B dX8_cutOn_6 rfl (c_X8_isCut (l := xL X) (S := S) hm hc0 hc1 p (by omega) (by omega)) eX8_isCut w1053 (by decide) rfl rfl (Nat.le_of_ble_eq_true rfl) (g_kE ?_)
    refine g_ifb_eq (t := 74) (q := 12) B dX8_cutOn_9 (by decide) rfl (fun cq9 => ?_) (fun cq9 => ?_)
    · refine g_aload_n (q := 75) B dX8_cutOn_74 rfl 0 rfl ?_
      refine g_iconst (q := 76) B dX8_cutOn_75 rfl ?_
      refine g_iload_n (q := 77) B dX8_cutOn_76 rfl 2 rfl ?_
      refine g_if_eq (t := 90) (q := 80) B dX8_cutOn_77 (by decide) rfl ⟨by omega, by omega⟩ (fun cq77 => ?_) (fun cq77 => ?_)
      · refine g_aload_n (q := 91) B dX8_cutOn_90 rfl 0 rfl ?_
        refine g_iconst (q := 92) B dX8_cutOn_91 rfl ?_
        refine g_iald (n := n) (q := 93) B dX8_cutOn_92 rfl rfl (cw_M hm (S n)) (by decide) (by omega) (by omega) ?_
        refine g_iconst (q := 94) B dX8_cutOn_93 rfl ?_
        refine g_iload_n (q := 95) B dX8_cutOn_94 rfl 1 rfl ?_
        refine g_ishl (v := (iI (1 * 2 ^ p.toNat))) (q := 96) B dX8_cutOn_95 rfl (iI_shl (by omega) (by omega) (by omega) (by omega)) ?_
        refine g_iconst (q := 97) B dX8_cutOn_96 rfl ?_
        refine g_ixor (v := (iI (1 * 2 ^ p.toNat) ^^^ iI (-1))) (q := 98) B dX8_cutOn_97 rfl (rfl) ?_
        refine g_iand (v := (iI (S n 5))) (q := 99) B dX8_cutOn_98 rfl (clr_bit0 hc0 hc1 (by omega) (by omega) (Bool.eq_false_iff.mpr cq9)) ?_
        refine g_iast (n := n) (q := 100) B dX8_cutOn_99 rfl rfl (fun g => cw_M hm g) (by decide) (by omega) (by omega) ?_
        refine g_aload_n (q := 101) B dX8_cutOn_100 rfl 0 rfl ?_
        have hvx : mw (us S n ((uq (S n) 5 (S n 5)))) n = cutF (mw S n) p (b = 1) := by
          rw [mw_us S n (by decide) (by decide), cutF, if_neg (by omega), cutOff_no (by rw [mw_5]; exact Bool.eq_false_iff.mpr cq9)]
          exact uq_self _ _
        refine g_callS (q := 104) (As := [.ref (yA Y n)]) (st := []) B dX8_cutOn_101 rfl (c_X8_runs (l := xL X) (S := (us S n ((uq (S n) 5 (S n 5))))) hm (by rw [hvx]; exact hwf.b)  ) eX8_runs w1059 (by decide) rfl rfl (Nat.le_of_ble_eq_true rfl) (g_kE ?_)
        have := runsF_in (mw (us S n ((uq (S n) 5 (S n 5)))) n)
        refine g_iret B E dX8_cutOn_104 ?_
        exact ⟨by rw [hvx], hvx, fm_us⟩
      · exact absurd cq77 (by omega)
    · refine g_aload_n (q := 13) B dX8_cutOn_12 rfl 0 rfl ?_
      refine g_bipush (q := 15) B dX8_cutOn_13 rfl (by decide) ?_
      refine g_iload_n (q := 16) B dX8_cutOn_15 rfl 1 rfl ?_
      refine g_iadd (q := 17) B dX8_cutOn_16 rfl ?_
      refine g_iconst (q := 18) B dX8_cutOn_17 rfl ?_
      refine g_isub (q := 19) B dX8_cutOn_18 rfl ?_
      refine g_iald (n := n) (q := 20) B dX8_cutOn_19 rfl rfl (cw_M hm (S n)) (by decide) (by omega) (by omega) ?_
      refine g_istore_n (q := 21) B dX8_cutOn_20 rfl (by decide) (L' := [(3, .int (iI (S n ((38 + p) - 1)))), (0, .ref (yA Y n)), (1, .int (iI p)), (2, .int (iI b))]) rfl ?_
      refine g_aload_n (q := 22) B dX8_cutOn_21 rfl 1 rfl ?_
      refine g_iload_n (q := 23) B dX8_cutOn_22 rfl 2 rfl ?_
      refine g_callS (q := 26) (As := [.ref (yA Y n), .int (iI p)]) (st := []) B dX8_cutOn_23 rfl (c_X8_runAt (l := xL X) (S := S) hm (wf.b hw) p (by omega) (by omega)) eX8_runAt w1056 (by decide) rfl rfl (Nat.le_of_ble_eq_true rfl) (g_kE ?_)
      have := runF_in (mw S n) (p := p) (by omega)
      refine g_istore (q := 28) B dX8_cutOn_26 rfl (by decide) (L' := [(4, .int (iI (runF (mw S n) p))), (3, .int (iI (S n ((38 + p) - 1)))), (0, .ref (yA Y n)), (1, .int (iI p)), (2, .int (iI b))]) rfl ?_
      refine g_iload_n (q := 29) B dX8_cutOn_28 rfl 3 rfl ?_
      refine g_istore (q := 31) B dX8_cutOn_29 rfl (by decide) (L' := [(5, .int (iI p)), (4, .int (iI (runF (mw S n) p))), (3, .int (iI (S n ((38 + p) - 1)))), (0, .ref (yA Y n)), (1, .int (iI p)), (2, .int (iI b))]) rfl ?_
      refine g_sub [3, 4, 5, 2, 1, 0] rfl ?_
      exact lp31 _ p.toNat S _ _ _ (by rw [show 38 + p - 1 = 38 + (p - 1) by omega]) (by first | rfl | omega) (by first | rfl | omega) (by first | assumption | omega) (by first | assumption | omega) (by exact (unP_0 _ (by omega)).symm) (by exact fm.rf) (by first | assumption | omega) (by first | assumption | omega) (Nat.lt_succ_self _)
set_option maxHeartbeats 4000000 in
theorem c_X8_thrown {Y : gY} {l : Launch} {S : SS}  : gM Y l mX8_thrown S [.ref (yA Y 82)] (pV (.int (iI (S 82 0))) (fun S' => S' = S)) := by
  refine gM_of (by decide) (Nat.le_of_ble_eq_true rfl) ?_
  intro X hXl B E
  show gW Y X S 0 [(0, .ref (yA Y 82))] []
  refine g_aload_n (q := 1) B dX8_thrown_0 rfl 0 rfl ?_
  refine g_get (n := 82) (ty := tyX8) (q := 4) (v := .int (iI (S 82 0))) B dX8_thrown_1 rfl rfl rfl cls6 0 (by decide) w951 rfl ?_
  refine g_iret B E dX8_thrown_4 ?_
  exact ⟨rfl, rfl⟩
set_option maxHeartbeats 4000000 in
theorem c_X8_refused {Y : gY} {l : Launch} {S : SS} (x : Int) (hx : rI x) : gM Y l mX8_refused S [.ref (yA Y 82), .int (iI x)] (pV (.int (bI (0 < x))) (fun S' => S' = us S 82 (uq (S 82) 0 x))) := by
  refine gM_of (by decide) (Nat.le_of_ble_eq_true rfl) ?_
  intro X hXl B E
  obtain ⟨hx0, hx1⟩ := hx
  show gW Y X S 0 [(0, .ref (yA Y 82)), (1, .int (iI x))] []
  refine g_aload_n (q := 1) B dX8_refused_0 rfl 0 rfl ?_
  refine g_iload_n (q := 2) B dX8_refused_1 rfl 1 rfl ?_
  refine g_put (n := 82) (ty := tyX8) (q := 5) B dX8_refused_2 rfl rfl rfl cls6 0 (by decide) w951 rfl rfl rfl (Nat.le_of_ble_eq_true rfl) ((uq (S 82) 0 x)) rfl ?_
  refine g_iload_n (q := 6) B dX8_refused_5 rfl 1 rfl ?_
  refine g_if_le (t := 13) (q := 9) B dX8_refused_6 (by decide) rfl ⟨by omega, by omega⟩ (fun cq6 => ?_) (fun cq6 => ?_)
  · refine g_iconst (q := 14) B dX8_refused_13 rfl ?_
    refine g_zret B E dX8_refused_14 rfl (by decide) ?_
    exact ⟨zf (by omega), rfl⟩
  · refine g_iconst (q := 10) B dX8_refused_9 rfl ?_
    refine g_goto (q := 14) B dX8_refused_10 (by decide) ?_
    refine g_zret B E dX8_refused_14 rfl (by decide) ?_
    exact ⟨zt (by omega), rfl⟩
