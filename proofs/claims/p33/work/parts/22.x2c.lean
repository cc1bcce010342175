set_option maxHeartbeats 4000000 in
theorem c_X2_loosen {Y : gY} {l : Launch} {S : SS} {i : Nat} (hi : i < 18) : gM Y l mX2_loosen S [.ref (yA Y (4 * i))] (p0 (fun S' => vw S' i = freeF (vw S i) ∧ fr S S' i)) := by
  refine gM_of (by decide) (Nat.le_of_ble_eq_true rfl) ?_
  intro X hXl B E
  show gW Y X S 0 [(0, .ref (yA Y (4 * i)))] []
  have lp7 : ∀ (fu : Nat) (p : Nat) (Sx : SS) (x1 : Int) , x1 = ((p : Int)) → p ≤ 16 → vw Sx i = ownF (uq (vw S i) 5 0) p → fr S Sx i → 16 - p < fu → gW Y X Sx 7 [(0, .ref (yA Y (4 * i))), (1, .int (iI x1))] [] := by
    intro fu
    induction fu with
    | zero =>
      intro p Sx x1 e_x1 hp hv hf hfu
      exact absurd hfu (Nat.not_lt_zero _)
    | succ fu ih =>
      intro p Sx x1 e_x1 hp hv hf hfu
      subst e_x1
      refine g_iload_n (q := 8) B dX2_loosen_7 rfl 1 rfl ?_
      refine g_bipush (q := 10) B dX2_loosen_8 rfl (by decide) ?_
      refine g_icmp_ge (t := 25) (q := 13) B dX2_loosen_10 (by decide) rfl ⟨by omega, by omega⟩ ⟨by omega, by omega⟩ (fun cq10 => ?_) (fun cq10 => ?_)
      · refine g_vret B E dX2_loosen_25 ?_
        exact ⟨rfl, by rw [hv, show p = 16 by omega, ownF_16], hf⟩
      · refine g_aload_n (q := 14) B dX2_loosen_13 rfl 0 rfl ?_
        refine g_iload_n (q := 15) B dX2_loosen_14 rfl 1 rfl ?_
        refine g_iconst (q := 16) B dX2_loosen_15 rfl ?_
        refine g_callV (n := (4 * i)) (ty := tyX2) (q := 19) (As := [.int (iI ((p : Int))), .int (iI (-1))]) (st := []) B dX2_loosen_16 rfl (c_X2_putOwner (l := xL X) (S := Sx) hi ((p : Int)) (-1) (by omega) (by omega)) eX2_putOwner w365 (by decide) rfl (cw_N hi (Sx ((4 * i)))) cls2 rfl rfl (Nat.le_of_ble_eq_true rfl) (g_k0 (fun Sy hSy => ?_))
        obtain ⟨hvSy, hfSy⟩ := hSy
        refine g_iinc (n := 1) (q := 22) B dX2_loosen_19 rfl rfl (by decide) (L' := [(1, .int (iI ((p : Int) + 1))), (0, .ref (yA Y (4 * i)))]) rfl ?_
        refine g_goto (q := 7) B dX2_loosen_22 (by decide) ?_
        refine g_sub [1, 0] rfl ?_
        exact ih (p + 1) Sy _ (by first | rfl | omega) (by first | assumption | omega) (by rw [hvSy, hv, ownF_s]) (by exact hf.tr hfSy) (by omega)
  refine g_aload_n (q := 1) B dX2_loosen_0 rfl 0 rfl ?_
  refine g_iconst (q := 2) B dX2_loosen_1 rfl ?_
  refine g_put (n := (4 * i)) (ty := tyX2) (q := 5) B dX2_loosen_2 rfl rfl (cw_N hi (S ((4 * i)))) cls2 5 (by decide) w77 rfl rfl rfl (Nat.le_of_ble_eq_true rfl) ((uq (S ((4 * i))) 5 0)) (cw_N hi ((uq (S ((4 * i))) 5 0))) ?_
  refine g_iconst (q := 6) B dX2_loosen_5 rfl ?_
  refine g_istore_n (q := 7) B dX2_loosen_6 rfl (by decide) (L' := [(1, .int (iI 0)), (0, .ref (yA Y (4 * i)))]) rfl ?_
  refine g_sub [1, 0] rfl ?_
  exact lp7 _ 0 ((us S (4 * i) (uq (S (4 * i)) 5 0))) _ (by first | rfl | omega) (by first | assumption | omega) (by rw [ownF_0, vw_us0 S i (by decide) (by decide)]) (by exact fr_us 0 (by decide)) (Nat.lt_succ_self _)
set_option maxHeartbeats 4000000 in
theorem c_X2_becomeNew {Y : gY} {l : Launch} {S : SS} {i : Nat} (hi : i < 18) : gM Y l mX2_becomeNew S [.ref (yA Y (4 * i))] (p0 (fun S' => vw S' i = newF (vw S i) ∧ fr S S' i)) := by
  refine gM_of (by decide) (Nat.le_of_ble_eq_true rfl) ?_
  intro X hXl B E
  show gW Y X S 0 [(0, .ref (yA Y (4 * i)))] []
  refine g_aload_n (q := 1) B dX2_becomeNew_0 rfl 0 rfl ?_
  refine g_iconst (q := 2) B dX2_becomeNew_1 rfl ?_
  refine g_put (n := (4 * i)) (ty := tyX2) (q := 5) B dX2_becomeNew_2 rfl rfl (cw_N hi (S ((4 * i)))) cls2 0 (by decide) w65 rfl rfl rfl (Nat.le_of_ble_eq_true rfl) ((uq (S ((4 * i))) 0 0)) (cw_N hi ((uq (S ((4 * i))) 0 0))) ?_
  refine g_aload_n (q := 6) B dX2_becomeNew_5 rfl 0 rfl ?_
  refine g_iconst (q := 7) B dX2_becomeNew_6 rfl ?_
  refine g_put (n := (4 * i)) (ty := tyX2) (q := 10) B dX2_becomeNew_7 rfl (us_eq _ _ _) (cw_N hi ((uq (S ((4 * i))) 0 0))) cls2 1 (by decide) w68 rfl rfl rfl (Nat.le_of_ble_eq_true rfl) ((uq ((uq (S ((4 * i))) 0 0)) 1 0)) (cw_N hi ((uq ((uq (S ((4 * i))) 0 0)) 1 0))) ?_
  refine g_eqS (us_us _ _ _ _) ?_
  refine g_aload_n (q := 11) B dX2_becomeNew_10 rfl 0 rfl ?_
  refine g_iconst (q := 12) B dX2_becomeNew_11 rfl ?_
  refine g_put (n := (4 * i)) (ty := tyX2) (q := 15) B dX2_becomeNew_12 rfl (us_eq _ _ _) (cw_N hi ((uq ((uq (S ((4 * i))) 0 0)) 1 0))) cls2 2 (by decide) w71 rfl rfl rfl (Nat.le_of_ble_eq_true rfl) ((uq ((uq ((uq (S ((4 * i))) 0 0)) 1 0)) 2 0)) (cw_N hi ((uq ((uq ((uq (S ((4 * i))) 0 0)) 1 0)) 2 0))) ?_
  refine g_eqS (us_us _ _ _ _) ?_
  refine g_aload_n (q := 16) B dX2_becomeNew_15 rfl 0 rfl ?_
  refine g_iconst (q := 17) B dX2_becomeNew_16 rfl ?_
  refine g_put (n := (4 * i)) (ty := tyX2) (q := 20) B dX2_becomeNew_17 rfl (us_eq _ _ _) (cw_N hi ((uq ((uq ((uq (S ((4 * i))) 0 0)) 1 0)) 2 0))) cls2 3 (by decide) w73 rfl rfl rfl (Nat.le_of_ble_eq_true rfl) ((uq ((uq ((uq ((uq (S ((4 * i))) 0 0)) 1 0)) 2 0)) 3 0)) (cw_N hi ((uq ((uq ((uq ((uq (S ((4 * i))) 0 0)) 1 0)) 2 0)) 3 0))) ?_
  refine g_eqS (us_us _ _ _ _) ?_
  refine g_aload_n (q := 21) B dX2_becomeNew_20 rfl 0 rfl ?_
  refine g_iconst (q := 22) B dX2_becomeNew_21 rfl ?_
  refine g_put (n := (4 * i)) (ty := tyX2) (q := 25) B dX2_becomeNew_22 rfl (us_eq _ _ _) (cw_N hi ((uq ((uq ((uq ((uq (S ((4 * i))) 0 0)) 1 0)) 2 0)) 3 0))) cls2 4 (by decide) w75 rfl rfl rfl (Nat.le_of_ble_eq_true rfl) ((uq ((uq ((uq ((uq ((uq (S ((4 * i))) 0 0)) 1 0)) 2 0)) 3 0)) 4 0)) (cw_N hi ((uq ((uq ((uq ((uq ((uq (S ((4 * i))) 0 0)) 1 0)) 2 0)) 3 0)) 4 0))) ?_
  refine g_eqS (us_us _ _ _ _) ?_
  refine g_aload_n (q := 26) B dX2_becomeNew_25 rfl 0 rfl ?_
  refine g_callV (n := (4 * i)) (ty := tyX2) (q := 29) (As := []) (st := []) B dX2_becomeNew_26 rfl (c_X2_loosen (l := xL X) (S := (us S ((4 * i)) ((uq ((uq ((uq ((uq ((uq (S ((4 * i))) 0 0)) 1 0)) 2 0)) 3 0)) 4 0)))) hi) eX2_loosen w361 (by decide) (us_eq _ _ _) (cw_N hi ((uq ((uq ((uq ((uq ((uq (S ((4 * i))) 0 0)) 1 0)) 2 0)) 3 0)) 4 0))) cls2 rfl rfl (Nat.le_of_ble_eq_true rfl) (g_k0 (fun Sy hSy => ?_))
  obtain ⟨hvSy, hfSy⟩ := hSy
  refine g_vret B E dX2_becomeNew_29 ?_
  exact ⟨rfl, by rw [hvSy, new_0 S i (six (fun _ => rfl) (fun _ => rfl) (fun _ => rfl) (fun _ => rfl) (fun _ => rfl) (fun z => absurd rfl z))], (fr_us 0 (by decide)).tr hfSy⟩
set_option maxHeartbeats 4000000 in
theorem c_X2_becomeLike {Y : gY} {l : Launch} {S : SS} {i : Nat} (hi : i < 18) {k : Nat} (hk : k < 18) (hne : k ≠ i) : gM Y l mX2_becomeLike S [.ref (yA Y (4 * i)), .ref (yA Y (4 * k))] (p0 (fun S' => vw S' i = vw S k ∧ fr S S' i)) := by
  refine gM_of (by decide) (Nat.le_of_ble_eq_true rfl) ?_
  intro X hXl B E
  show gW Y X S 0 [(0, .ref (yA Y (4 * i))), (1, .ref (yA Y (4 * k)))] []
  have lp55 : ∀ (fu : Nat) (p : Nat) (Sx : SS) (x2 : Int) , x2 = ((p : Int)) → p ≤ 16 → vw Sx i = likeF (vw S i) (vw S k) p → fr S Sx i → 16 - p < fu → gW Y X Sx 55 [(0, .ref (yA Y (4 * i))), (1, .ref (yA Y (4 * k))), (2, .int (iI x2))] [] := by
    intro fu
    induction fu with
    | zero =>
      intro p Sx x2 e_x2 hp hv hf hfu
      exact absurd hfu (Nat.not_lt_zero _)
    | succ fu ih =>
      intro p Sx x2 e_x2 hp hv hf hfu
      subst e_x2
      refine g_iload_n (q := 56) B dX2_becomeLike_55 rfl 2 rfl ?_
      refine g_bipush (q := 58) B dX2_becomeLike_56 rfl (by decide) ?_
      refine g_icmp_ge (t := 92) (q := 61) B dX2_becomeLike_58 (by decide) rfl ⟨by omega, by omega⟩ ⟨by omega, by omega⟩ (fun cq58 => ?_) (fun cq58 => ?_)
      · refine g_vret B E dX2_becomeLike_92 ?_
        exact ⟨rfl, by rw [hv, show p = 16 by omega, like_16], hf⟩
      · refine g_aload_n (q := 62) B dX2_becomeLike_61 rfl 0 rfl ?_
        refine g_iload_n (q := 63) B dX2_becomeLike_62 rfl 2 rfl ?_
        refine g_aload_n (q := 64) B dX2_becomeLike_63 rfl 1 rfl ?_
        refine g_iload_n (q := 65) B dX2_becomeLike_64 rfl 2 rfl ?_
        refine g_callV (n := (4 * k)) (ty := tyX2) (q := 68) (As := [.int (iI ((p : Int)))]) (st := [.int (iI ((p : Int))), .ref (yA Y (4 * i))]) B dX2_becomeLike_65 rfl (c_X2_kindOf (l := xL X) (S := Sx) hk ((p : Int)) (by omega) (by omega)) eX2_kindOf w491 (by decide) rfl (cw_N hk (Sx ((4 * k)))) cls2 rfl rfl (Nat.le_of_ble_eq_true rfl) (g_kE ?_)
        refine g_aload_n (q := 69) B dX2_becomeLike_68 rfl 1 rfl ?_
        refine g_iload_n (q := 70) B dX2_becomeLike_69 rfl 2 rfl ?_
        refine g_callV (n := (4 * k)) (ty := tyX2) (q := 73) (As := [.int (iI ((p : Int)))]) (st := [.int (iI (Sx (4 * k + 1) ((p : Int)))), .int (iI ((p : Int))), .ref (yA Y (4 * i))]) B dX2_becomeLike_70 rfl (c_X2_weightOf (l := xL X) (S := Sx) hk ((p : Int)) (by omega) (by omega)) eX2_weightOf w495 (by decide) rfl (cw_N hk (Sx ((4 * k)))) cls2 rfl rfl (Nat.le_of_ble_eq_true rfl) (g_kE ?_)
        refine g_callV (n := (4 * i)) (ty := tyX2) (q := 76) (As := [.int (iI ((p : Int))), .int (iI (Sx (4 * k + 1) ((p : Int)))), .int (iI (Sx (4 * k + 2) ((p : Int))))]) (st := []) B dX2_becomeLike_73 rfl (c_X2_putJewel (l := xL X) (S := Sx) hi ((p : Int)) (Sx (4 * k + 1) ((p : Int))) (Sx (4 * k + 2) ((p : Int))) (by omega) (by omega)) eX2_putJewel w395 (by decide) rfl (cw_N hi (Sx ((4 * i)))) cls2 rfl rfl (Nat.le_of_ble_eq_true rfl) (g_k0 (fun Sy hSy => ?_))
        obtain ⟨hvSy, hfSy⟩ := hSy
        refine g_aload_n (q := 77) B dX2_becomeLike_76 rfl 0 rfl ?_
        refine g_iload_n (q := 78) B dX2_becomeLike_77 rfl 2 rfl ?_
        refine g_aload_n (q := 79) B dX2_becomeLike_78 rfl 1 rfl ?_
        refine g_iload_n (q := 80) B dX2_becomeLike_79 rfl 2 rfl ?_
        refine g_callV (n := (4 * k)) (ty := tyX2) (q := 83) (As := [.int (iI ((p : Int)))]) (st := [.int (iI ((p : Int))), .ref (yA Y (4 * i))]) B dX2_becomeLike_80 rfl (c_X2_ownerAt (l := xL X) (S := Sy) hk ((p : Int)) (by omega) (by omega)) eX2_ownerAt w433 (by decide) rfl (cw_N hk (Sy ((4 * k)))) cls2 rfl rfl (Nat.le_of_ble_eq_true rfl) (g_kE ?_)
        have e1 : Sx (4 * k + 1) p = vw S k (6 + p) := by rw [vw_k S k (by omega) (by omega)]; exact congrFun (hf (4 * k + 1) (by omega)) _
        have e2 : Sx (4 * k + 2) p = vw S k (22 + p) := by rw [vw_w S k (by omega) (by omega)]; exact congrFun (hf (4 * k + 2) (by omega)) _
        have e3 : Sy (4 * k + 3) p = vw S k (38 + p) := by rw [vw_o S k (by omega) (by omega)]; exact congrFun ((hf.tr hfSy) (4 * k + 3) (by omega)) _
        refine g_callV (n := (4 * i)) (ty := tyX2) (q := 86) (As := [.int (iI ((p : Int))), .int (iI (Sy (4 * k + 3) ((p : Int))))]) (st := []) B dX2_becomeLike_83 rfl (c_X2_putOwner (l := xL X) (S := Sy) hi ((p : Int)) (Sy (4 * k + 3) ((p : Int))) (by omega) (by omega)) eX2_putOwner w365 (by decide) rfl (cw_N hi (Sy ((4 * i)))) cls2 rfl rfl (Nat.le_of_ble_eq_true rfl) (g_k0 (fun Sz hSz => ?_))
        obtain ⟨hvSz, hfSz⟩ := hSz
        refine g_iinc (n := 2) (q := 89) B dX2_becomeLike_86 rfl rfl (by decide) (L' := [(2, .int (iI ((p : Int) + 1))), (0, .ref (yA Y (4 * i))), (1, .ref (yA Y (4 * k)))]) rfl ?_
        refine g_goto (q := 55) B dX2_becomeLike_89 (by decide) ?_
        refine g_sub [1, 2, 0] rfl ?_
        exact ih (p + 1) Sz _ (by first | rfl | omega) (by first | assumption | omega) (by rw [hvSz, hvSy, hv, ← like_s _ _ p (by omega), e1, e2, e3]) (by exact (hf.tr hfSy).tr hfSz) (by omega)
  refine g_aload_n (q := 1) B dX2_becomeLike_0 rfl 1 rfl ?_
  refine g_ifnonnull (q := 5) B dX2_becomeLike_1 (by decide) ?_
  refine g_aload_n (q := 6) B dX2_becomeLike_5 rfl 0 rfl ?_
  refine g_aload_n (q := 7) B dX2_becomeLike_6 rfl 1 rfl ?_
  refine g_get (n := (4 * k)) (ty := tyX2) (q := 10) (v := .int (iI (S ((4 * k)) 0))) B dX2_becomeLike_7 rfl rfl (cw_N hk (S ((4 * k)))) cls2 0 (by decide) w65 rfl ?_
  refine g_put (n := (4 * i)) (ty := tyX2) (q := 13) B dX2_becomeLike_10 rfl rfl (cw_N hi (S ((4 * i)))) cls2 0 (by decide) w65 rfl rfl rfl (Nat.le_of_ble_eq_true rfl) ((uq (S ((4 * i))) 0 (S ((4 * k)) 0))) (cw_N hi ((uq (S ((4 * i))) 0 (S ((4 * k)) 0)))) ?_
  refine g_aload_n (q := 14) B dX2_becomeLike_13 rfl 0 rfl ?_
  refine g_aload_n (q := 15) B dX2_becomeLike_14 rfl 1 rfl ?_
  refine g_get (n := (4 * k)) (ty := tyX2) (q := 18) (v := .int (iI (S ((4 * k)) 1))) B dX2_becomeLike_15 rfl ((us_ne _ _ (by omega)).trans rfl) (cw_N hk (S ((4 * k)))) cls2 1 (by decide) w68 rfl ?_
  refine g_put (n := (4 * i)) (ty := tyX2) (q := 21) B dX2_becomeLike_18 rfl (us_eq _ _ _) (cw_N hi ((uq (S ((4 * i))) 0 (S ((4 * k)) 0)))) cls2 1 (by decide) w68 rfl rfl rfl (Nat.le_of_ble_eq_true rfl) ((uq ((uq (S ((4 * i))) 0 (S ((4 * k)) 0))) 1 (S ((4 * k)) 1))) (cw_N hi ((uq ((uq (S ((4 * i))) 0 (S ((4 * k)) 0))) 1 (S ((4 * k)) 1)))) ?_
  refine g_eqS (us_us _ _ _ _) ?_
  refine g_aload_n (q := 22) B dX2_becomeLike_21 rfl 0 rfl ?_
  refine g_aload_n (q := 23) B dX2_becomeLike_22 rfl 1 rfl ?_
  refine g_get (n := (4 * k)) (ty := tyX2) (q := 26) (v := .int (iI (S ((4 * k)) 2))) B dX2_becomeLike_23 rfl ((us_ne _ _ (by omega)).trans rfl) (cw_N hk (S ((4 * k)))) cls2 2 (by decide) w71 rfl ?_
  refine g_put (n := (4 * i)) (ty := tyX2) (q := 29) B dX2_becomeLike_26 rfl (us_eq _ _ _) (cw_N hi ((uq ((uq (S ((4 * i))) 0 (S ((4 * k)) 0))) 1 (S ((4 * k)) 1)))) cls2 2 (by decide) w71 rfl rfl rfl (Nat.le_of_ble_eq_true rfl) ((uq ((uq ((uq (S ((4 * i))) 0 (S ((4 * k)) 0))) 1 (S ((4 * k)) 1))) 2 (S ((4 * k)) 2))) (cw_N hi ((uq ((uq ((uq (S ((4 * i))) 0 (S ((4 * k)) 0))) 1 (S ((4 * k)) 1))) 2 (S ((4 * k)) 2)))) ?_
  refine g_eqS (us_us _ _ _ _) ?_
  refine g_aload_n (q := 30) B dX2_becomeLike_29 rfl 0 rfl ?_
  refine g_aload_n (q := 31) B dX2_becomeLike_30 rfl 1 rfl ?_
  refine g_get (n := (4 * k)) (ty := tyX2) (q := 34) (v := .int (iI (S ((4 * k)) 3))) B dX2_becomeLike_31 rfl ((us_ne _ _ (by omega)).trans rfl) (cw_N hk (S ((4 * k)))) cls2 3 (by decide) w73 rfl ?_
  refine g_put (n := (4 * i)) (ty := tyX2) (q := 37) B dX2_becomeLike_34 rfl (us_eq _ _ _) (cw_N hi ((uq ((uq ((uq (S ((4 * i))) 0 (S ((4 * k)) 0))) 1 (S ((4 * k)) 1))) 2 (S ((4 * k)) 2)))) cls2 3 (by decide) w73 rfl rfl rfl (Nat.le_of_ble_eq_true rfl) ((uq ((uq ((uq ((uq (S ((4 * i))) 0 (S ((4 * k)) 0))) 1 (S ((4 * k)) 1))) 2 (S ((4 * k)) 2))) 3 (S ((4 * k)) 3))) (cw_N hi ((uq ((uq ((uq ((uq (S ((4 * i))) 0 (S ((4 * k)) 0))) 1 (S ((4 * k)) 1))) 2 (S ((4 * k)) 2))) 3 (S ((4 * k)) 3)))) ?_
  refine g_eqS (us_us _ _ _ _) ?_
  refine g_aload_n (q := 38) B dX2_becomeLike_37 rfl 0 rfl ?_
  refine g_aload_n (q := 39) B dX2_becomeLike_38 rfl 1 rfl ?_
  refine g_get (n := (4 * k)) (ty := tyX2) (q := 42) (v := .int (iI (S ((4 * k)) 4))) B dX2_becomeLike_39 rfl ((us_ne _ _ (by omega)).trans rfl) (cw_N hk (S ((4 * k)))) cls2 4 (by decide) w75 rfl ?_
  refine g_put (n := (4 * i)) (ty := tyX2) (q := 45) B dX2_becomeLike_42 rfl (us_eq _ _ _) (cw_N hi ((uq ((uq ((uq ((uq (S ((4 * i))) 0 (S ((4 * k)) 0))) 1 (S ((4 * k)) 1))) 2 (S ((4 * k)) 2))) 3 (S ((4 * k)) 3)))) cls2 4 (by decide) w75 rfl rfl rfl (Nat.le_of_ble_eq_true rfl) ((uq ((uq ((uq ((uq ((uq (S ((4 * i))) 0 (S ((4 * k)) 0))) 1 (S ((4 * k)) 1))) 2 (S ((4 * k)) 2))) 3 (S ((4 * k)) 3))) 4 (S ((4 * k)) 4))) (cw_N hi ((uq ((uq ((uq ((uq ((uq (S ((4 * i))) 0 (S ((4 * k)) 0))) 1 (S ((4 * k)) 1))) 2 (S ((4 * k)) 2))) 3 (S ((4 * k)) 3))) 4 (S ((4 * k)) 4)))) ?_
  refine g_eqS (us_us _ _ _ _) ?_
  refine g_aload_n (q := 46) B dX2_becomeLike_45 rfl 0 rfl ?_
  refine g_aload_n (q := 47) B dX2_becomeLike_46 rfl 1 rfl ?_
  refine g_get (n := (4 * k)) (ty := tyX2) (q := 50) (v := .int (iI (S ((4 * k)) 5))) B dX2_becomeLike_47 rfl ((us_ne _ _ (by omega)).trans rfl) (cw_N hk (S ((4 * k)))) cls2 5 (by decide) w77 rfl ?_
  refine g_put (n := (4 * i)) (ty := tyX2) (q := 53) B dX2_becomeLike_50 rfl (us_eq _ _ _) (cw_N hi ((uq ((uq ((uq ((uq ((uq (S ((4 * i))) 0 (S ((4 * k)) 0))) 1 (S ((4 * k)) 1))) 2 (S ((4 * k)) 2))) 3 (S ((4 * k)) 3))) 4 (S ((4 * k)) 4)))) cls2 5 (by decide) w77 rfl rfl rfl (Nat.le_of_ble_eq_true rfl) ((uq ((uq ((uq ((uq ((uq ((uq (S ((4 * i))) 0 (S ((4 * k)) 0))) 1 (S ((4 * k)) 1))) 2 (S ((4 * k)) 2))) 3 (S ((4 * k)) 3))) 4 (S ((4 * k)) 4))) 5 (S ((4 * k)) 5))) (cw_N hi ((uq ((uq ((uq ((uq ((uq ((uq (S ((4 * i))) 0 (S ((4 * k)) 0))) 1 (S ((4 * k)) 1))) 2 (S ((4 * k)) 2))) 3 (S ((4 * k)) 3))) 4 (S ((4 * k)) 4))) 5 (S ((4 * k)) 5)))) ?_
  refine g_eqS (us_us _ _ _ _) ?_
  refine g_iconst (q := 54) B dX2_becomeLike_53 rfl ?_
  refine g_istore_n (q := 55) B dX2_becomeLike_54 rfl (by decide) (L' := [(2, .int (iI 0)), (0, .ref (yA Y (4 * i))), (1, .ref (yA Y (4 * k)))]) rfl ?_
  refine g_sub [1, 2, 0] rfl ?_
  exact lp55 _ 0 _ _ (by first | rfl | omega) (by first | assumption | omega) (by exact like_0 S i k (six rfl rfl rfl rfl rfl rfl)) (by exact fr_us 0 (by decide)) (Nat.lt_succ_self _)
set_option maxHeartbeats 4000000 in
theorem c_X2_addJewel {Y : gY} {l : Launch} {S : SS} {i : Nat} (hi : i < 18) (hw : wf (vw S i)) (k w : Int) (hk : rI k) (hx : rI w) : gM Y l mX2_addJewel S [.ref (yA Y (4 * i)), .int (iI k), .int (iI w)] (pV (.int (bI ((0 ≤ k ∧ k < 4) ∧ (1 ≤ w ∧ w ≤ 9) ∧ S (4 * i) 0 < 16))) (fun S' => vw S' i = addG (vw S i) k w ∧ fr S S' i)) := by
  refine gM_of (by decide) (Nat.le_of_ble_eq_true rfl) ?_
  intro X hXl B E
  obtain ⟨⟨hn0, hn16⟩, ⟨hb0, hb1⟩, ⟨hm0, hm1⟩, ⟨hs0, hs1⟩, ⟨hc0, hc1⟩, hct, hkw, how, hun⟩ := wfS hw
  obtain ⟨hk0, hk1⟩ := hk
  obtain ⟨hx0, hx1⟩ := hx
  show gW Y X S 0 [(0, .ref (yA Y (4 * i))), (1, .int (iI k)), (2, .int (iI w))] []
  refine g_iload_n (q := 1) B dX2_addJewel_0 rfl 1 rfl ?_
  refine g_callSN (q := 4) (As := [.int (iI k)]) (st := []) B dX2_addJewel_1 rfl (c_X7_isKind (l := xL X) (S := S) k ⟨by omega, by omega⟩) eX7_isKind w389 (by decide) rfl rfl (Nat.le_of_ble_eq_true rfl) (g_kE ?_)
  refine g_ifb_eq (t := 23) (q := 7) B dX2_addJewel_4 (by decide) rfl (fun cq4 => ?_) (fun cq4 => ?_)
  · refine g_iconst (q := 24) B dX2_addJewel_23 rfl ?_
    refine g_zret B E dX2_addJewel_24 rfl (by decide) ?_
    exact ⟨zf (by omega), by rw [addG, if_neg (by rw [vw_0]; omega)], fr.rf⟩
  · refine g_iload_n (q := 8) B dX2_addJewel_7 rfl 2 rfl ?_
    refine g_callSN (q := 11) (As := [.int (iI w)]) (st := []) B dX2_addJewel_8 rfl (c_X7_isWeight (l := xL X) (S := S) w ⟨by omega, by omega⟩) eX7_isWeight w392 (by decide) rfl rfl (Nat.le_of_ble_eq_true rfl) (g_kE ?_)
    refine g_ifb_eq (t := 23) (q := 14) B dX2_addJewel_11 (by decide) rfl (fun cq11 => ?_) (fun cq11 => ?_)
    · refine g_iconst (q := 24) B dX2_addJewel_23 rfl ?_
      refine g_zret B E dX2_addJewel_24 rfl (by decide) ?_
      exact ⟨zf (by omega), by rw [addG, if_neg (by rw [vw_0]; omega)], fr.rf⟩
    · refine g_aload_n (q := 15) B dX2_addJewel_14 rfl 0 rfl ?_
      refine g_get (n := (4 * i)) (ty := tyX2) (q := 18) (v := .int (iI (S ((4 * i)) 0))) B dX2_addJewel_15 rfl rfl (cw_N hi (S ((4 * i)))) cls2 0 (by decide) w65 rfl ?_
      refine g_bipush (q := 20) B dX2_addJewel_18 rfl (by decide) ?_
      refine g_icmp_lt (t := 25) (q := 23) B dX2_addJewel_20 (by decide) rfl ⟨by omega, by omega⟩ ⟨by omega, by omega⟩ (fun cq20 => ?_) (fun cq20 => ?_)
      · refine g_aload_n (q := 26) B dX2_addJewel_25 rfl 0 rfl ?_
        refine g_aload_n (q := 27) B dX2_addJewel_26 rfl 0 rfl ?_
        refine g_get (n := (4 * i)) (ty := tyX2) (q := 30) (v := .int (iI (S ((4 * i)) 0))) B dX2_addJewel_27 rfl rfl (cw_N hi (S ((4 * i)))) cls2 0 (by decide) w65 rfl ?_
        refine g_iload_n (q := 31) B dX2_addJewel_30 rfl 1 rfl ?_
        refine g_iload_n (q := 32) B dX2_addJewel_31 rfl 2 rfl ?_
        refine g_callV (n := (4 * i)) (ty := tyX2) (q := 35) (As := [.int (iI (S ((4 * i)) 0)), .int (iI k), .int (iI w)]) (st := []) B dX2_addJewel_32 rfl (c_X2_putJewel (l := xL X) (S := S) hi (S ((4 * i)) 0) k w (by omega) (by omega)) eX2_putJewel w395 (by decide) rfl (cw_N hi (S ((4 * i)))) cls2 rfl rfl (Nat.le_of_ble_eq_true rfl) (g_k0 (fun Sy hSy => ?_))
        obtain ⟨hvSy, hfSy⟩ := hSy
        have hj : Sy (4 * i) 0 = S (4 * i) 0 := by have e := congrFun hvSy 0; rw [uq_ne _ _ (by omega), uq_ne _ _ (by omega)] at e; exact e
        refine g_aload_n (q := 36) B dX2_addJewel_35 rfl 0 rfl ?_
        refine g_dup (q := 37) B dX2_addJewel_36 rfl rfl ?_
        refine g_get (n := (4 * i)) (ty := tyX2) (q := 40) (v := .int (iI (Sy ((4 * i)) 0))) B dX2_addJewel_37 rfl rfl (cw_N hi (Sy ((4 * i)))) cls2 0 (by decide) w65 rfl ?_
        refine g_iconst (q := 41) B dX2_addJewel_40 rfl ?_
        refine g_iadd (q := 42) B dX2_addJewel_41 rfl ?_
        refine g_put (n := (4 * i)) (ty := tyX2) (q := 45) B dX2_addJewel_42 rfl rfl (cw_N hi (Sy ((4 * i)))) cls2 0 (by decide) w65 rfl rfl rfl (Nat.le_of_ble_eq_true rfl) ((uq (Sy ((4 * i))) 0 ((Sy ((4 * i)) 0) + 1))) (cw_N hi ((uq (Sy ((4 * i))) 0 ((Sy ((4 * i)) 0) + 1)))) ?_
        refine g_aload_n (q := 46) B dX2_addJewel_45 rfl 0 rfl ?_
        refine g_callV (n := (4 * i)) (ty := tyX2) (q := 49) (As := []) (st := []) B dX2_addJewel_46 rfl (c_X2_loosen (l := xL X) (S := (us Sy ((4 * i)) ((uq (Sy ((4 * i))) 0 ((Sy ((4 * i)) 0) + 1))))) hi) eX2_loosen w361 (by decide) (us_eq _ _ _) (cw_N hi ((uq (Sy ((4 * i))) 0 ((Sy ((4 * i)) 0) + 1)))) cls2 rfl rfl (Nat.le_of_ble_eq_true rfl) (g_k0 (fun Sz hSz => ?_))
        obtain ⟨hvSz, hfSz⟩ := hSz
        refine g_iconst (q := 50) B dX2_addJewel_49 rfl ?_
        refine g_zret B E dX2_addJewel_50 rfl (by decide) ?_
        refine ⟨zt (by omega), ?_, (hfSy.tr (fr_us 0 (by decide))).tr hfSz⟩
        rw [addG, if_pos (by rw [vw_0]; omega), addF, hvSz, vw_us0 Sy i (by decide) (by decide), hvSy, hj]
        rfl
      · refine g_iconst (q := 24) B dX2_addJewel_23 rfl ?_
        refine g_zret B E dX2_addJewel_24 rfl (by decide) ?_
        exact ⟨zf (by omega), by rw [addG, if_neg (by rw [vw_0]; omega)], fr.rf⟩
set_option maxHeartbeats 4000000 in
theorem c_X2_swapJewels {Y : gY} {l : Launch} {S : SS} {i : Nat} (hi : i < 18) (hw : wf (vw S i)) (a b : Int) (ha : rI a) (hb : rI b) : gM Y l mX2_swapJewels S [.ref (yA Y (4 * i)), .int (iI a), .int (iI b)] (pV (.int (bI ((0 ≤ a ∧ a < S (4 * i) 0) ∧ 0 ≤ b ∧ b < S (4 * i) 0))) (fun S' => vw S' i = swapG (vw S i) a b ∧ fr S S' i)) := by
  refine gM_of (by decide) (Nat.le_of_ble_eq_true rfl) ?_
  intro X hXl B E
  obtain ⟨⟨hn0, hn16⟩, ⟨hb0, hb1⟩, ⟨hm0, hm1⟩, ⟨hs0, hs1⟩, ⟨hc0, hc1⟩, hct, hkw, how, hun⟩ := wfS hw
  obtain ⟨ha0, ha1⟩ := ha
  obtain ⟨hbb0, hbb1⟩ := hb
  show gW Y X S 0 [(0, .ref (yA Y (4 * i))), (1, .int (iI a)), (2, .int (iI b))] []
  refine g_aload_n (q := 1) B dX2_swapJewels_0 rfl 0 rfl ?_
  refine g_iload_n (q := 2) B dX2_swapJewels_1 rfl 1 rfl ?_
  refine g_callV (n := (4 * i)) (ty := tyX2) (q := 5) (As := [.int (iI a)]) (st := []) B dX2_swapJewels_2 rfl (c_X2_hasJewel (l := xL X) (S := S) hi hw a ⟨by omega, by omega⟩) eX2_hasJewel w407 (by decide) rfl (cw_N hi (S ((4 * i)))) cls2 rfl rfl (Nat.le_of_ble_eq_true rfl) (g_kE ?_)
  refine g_ifb_eq (t := 16) (q := 8) B dX2_swapJewels_5 (by decide) rfl (fun cq5 => ?_) (fun cq5 => ?_)
  · refine g_iconst (q := 17) B dX2_swapJewels_16 rfl ?_
    refine g_zret B E dX2_swapJewels_17 rfl (by decide) ?_
    exact ⟨zf (by omega), by rw [swapG, if_neg (by rw [vw_0]; omega)], fr.rf⟩
  · refine g_aload_n (q := 9) B dX2_swapJewels_8 rfl 0 rfl ?_
    refine g_iload_n (q := 10) B dX2_swapJewels_9 rfl 2 rfl ?_
    refine g_callV (n := (4 * i)) (ty := tyX2) (q := 13) (As := [.int (iI b)]) (st := []) B dX2_swapJewels_10 rfl (c_X2_hasJewel (l := xL X) (S := S) hi hw b ⟨by omega, by omega⟩) eX2_hasJewel w407 (by decide) rfl (cw_N hi (S ((4 * i)))) cls2 rfl rfl (Nat.le_of_ble_eq_true rfl) (g_kE ?_)
    refine g_ifb_ne (t := 18) (q := 16) B dX2_swapJewels_13 (by decide) rfl (fun cq13 => ?_) (fun cq13 => ?_)
    · refine g_aload_n (q := 19) B dX2_swapJewels_18 rfl 0 rfl ?_
      refine g_iload_n (q := 20) B dX2_swapJewels_19 rfl 1 rfl ?_
      refine g_callV (n := (4 * i)) (ty := tyX2) (q := 23) (As := [.int (iI a)]) (st := []) B dX2_swapJewels_20 rfl (c_X2_kindOf (l := xL X) (S := S) hi a (by omega) (by omega)) eX2_kindOf w491 (by decide) rfl (cw_N hi (S ((4 * i)))) cls2 rfl rfl (Nat.le_of_ble_eq_true rfl) (g_kE ?_)
      refine g_istore_n (q := 24) B dX2_swapJewels_23 rfl (by decide) (L' := [(3, .int (iI (S (4 * i + 1) a))), (0, .ref (yA Y (4 * i))), (1, .int (iI a)), (2, .int (iI b))]) rfl ?_
      refine g_aload_n (q := 25) B dX2_swapJewels_24 rfl 1 rfl ?_
      refine g_iload_n (q := 26) B dX2_swapJewels_25 rfl 2 rfl ?_
      refine g_callV (n := (4 * i)) (ty := tyX2) (q := 29) (As := [.int (iI a)]) (st := []) B dX2_swapJewels_26 rfl (c_X2_weightOf (l := xL X) (S := S) hi a (by omega) (by omega)) eX2_weightOf w495 (by decide) rfl (cw_N hi (S ((4 * i)))) cls2 rfl rfl (Nat.le_of_ble_eq_true rfl) (g_kE ?_)
      refine g_istore (q := 31) B dX2_swapJewels_29 rfl (by decide) (L' := [(4, .int (iI (S (4 * i + 2) a))), (3, .int (iI (S (4 * i + 1) a))), (0, .ref (yA Y (4 * i))), (1, .int (iI a)), (2, .int (iI b))]) rfl ?_
      refine g_aload_n (q := 32) B dX2_swapJewels_31 rfl 2 rfl ?_
      refine g_iload_n (q := 33) B dX2_swapJewels_32 rfl 3 rfl ?_
      refine g_aload_n (q := 34) B dX2_swapJewels_33 rfl 2 rfl ?_
      refine g_iload_n (q := 35) B dX2_swapJewels_34 rfl 4 rfl ?_
      refine g_callV (n := (4 * i)) (ty := tyX2) (q := 38) (As := [.int (iI b)]) (st := [.int (iI a), .ref (yA Y (4 * i))]) B dX2_swapJewels_35 rfl (c_X2_kindOf (l := xL X) (S := S) hi b (by omega) (by omega)) eX2_kindOf w491 (by decide) rfl (cw_N hi (S ((4 * i)))) cls2 rfl rfl (Nat.le_of_ble_eq_true rfl) (g_kE ?_)
      refine g_aload_n (q := 39) B dX2_swapJewels_38 rfl 2 rfl ?_
      refine g_iload_n (q := 40) B dX2_swapJewels_39 rfl 4 rfl ?_
      refine g_callV (n := (4 * i)) (ty := tyX2) (q := 43) (As := [.int (iI b)]) (st := [.int (iI (S (4 * i + 1) b)), .int (iI a), .ref (yA Y (4 * i))]) B dX2_swapJewels_40 rfl (c_X2_weightOf (l := xL X) (S := S) hi b (by omega) (by omega)) eX2_weightOf w495 (by decide) rfl (cw_N hi (S ((4 * i)))) cls2 rfl rfl (Nat.le_of_ble_eq_true rfl) (g_kE ?_)
      refine g_callV (n := (4 * i)) (ty := tyX2) (q := 46) (As := [.int (iI a), .int (iI (S (4 * i + 1) b)), .int (iI (S (4 * i + 2) b))]) (st := []) B dX2_swapJewels_43 rfl (c_X2_putJewel (l := xL X) (S := S) hi a (S (4 * i + 1) b) (S (4 * i + 2) b) (by omega) (by omega)) eX2_putJewel w395 (by decide) rfl (cw_N hi (S ((4 * i)))) cls2 rfl rfl (Nat.le_of_ble_eq_true rfl) (g_k0 (fun Sy hSy => ?_))
      obtain ⟨hvSy, hfSy⟩ := hSy
      refine g_aload_n (q := 47) B dX2_swapJewels_46 rfl 2 rfl ?_
      refine g_iload_n (q := 48) B dX2_swapJewels_47 rfl 4 rfl ?_
      refine g_iload_n (q := 49) B dX2_swapJewels_48 rfl 1 rfl ?_
      refine g_iload (q := 51) B dX2_swapJewels_49 rfl 0 rfl ?_
      refine g_callV (n := (4 * i)) (ty := tyX2) (q := 54) (As := [.int (iI b), .int (iI (S (4 * i + 1) a)), .int (iI (S (4 * i + 2) a))]) (st := []) B dX2_swapJewels_51 rfl (c_X2_putJewel (l := xL X) (S := Sy) hi b (S (4 * i + 1) a) (S (4 * i + 2) a) (by omega) (by omega)) eX2_putJewel w395 (by decide) rfl (cw_N hi (Sy ((4 * i)))) cls2 rfl rfl (Nat.le_of_ble_eq_true rfl) (g_k0 (fun Sz hSz => ?_))
      obtain ⟨hvSz, hfSz⟩ := hSz
      refine g_iconst (q := 55) B dX2_swapJewels_54 rfl ?_
      refine g_zret B E dX2_swapJewels_55 rfl (by decide) ?_
      refine ⟨zt (by omega), ?_, hfSy.tr hfSz⟩
      rw [swapG, if_pos (by rw [vw_0]; omega), swapF, vw_k S i (by omega) (by omega), vw_k S i (by omega) (by omega), vw_w S i (by omega) (by omega), vw_w S i (by omega) (by omega), hvSz, hvSy]
    · refine g_iconst (q := 17) B dX2_swapJewels_16 rfl ?_
      refine g_zret B E dX2_swapJewels_17 rfl (by decide) ?_
      exact ⟨zf (by omega), by rw [swapG, if_neg (by rw [vw_0]; omega)], fr.rf⟩
set_option maxHeartbeats 4000000 in
theorem c_X2_breakAhead {Y : gY} {l : Launch} {S : SS} {i : Nat} (hi : i < 18) (hw : wf (vw S i)) (j : Int) (hj : rI j) : gM Y l mX2_breakAhead S [.ref (yA Y (4 * i)), .int (iI j)] (pV (.int (bI (0 ≤ j ∧ j < S (4 * i) 0))) (fun S' => vw S' i = brkG (vw S i) j ∧ fr S S' i)) := by
  refine gM_of (by decide) (Nat.le_of_ble_eq_true rfl) ?_
  intro X hXl B E
  obtain ⟨⟨hn0, hn16⟩, ⟨hb0, hb1⟩, ⟨hm0, hm1⟩, ⟨hs0, hs1⟩, ⟨hc0, hc1⟩, hct, hkw, how, hun⟩ := wfS hw
  obtain ⟨hj0, hj1⟩ := hj
  show gW Y X S 0 [(0, .ref (yA Y (4 * i))), (1, .int (iI j))] []
  refine g_aload_n (q := 1) B dX2_breakAhead_0 rfl 0 rfl ?_
  refine g_iload_n (q := 2) B dX2_breakAhead_1 rfl 1 rfl ?_
  refine g_callV (n := (4 * i)) (ty := tyX2) (q := 5) (As := [.int (iI j)]) (st := []) B dX2_breakAhead_2 rfl (c_X2_hasJewel (l := xL X) (S := S) hi hw j ⟨by omega, by omega⟩) eX2_hasJewel w407 (by decide) rfl (cw_N hi (S ((4 * i)))) cls2 rfl rfl (Nat.le_of_ble_eq_true rfl) (g_kE ?_)
  refine g_ifb_ne (t := 10) (q := 8) B dX2_breakAhead_5 (by decide) rfl (fun cq5 => ?_) (fun cq5 => ?_)
  · refine g_aload_n (q := 11) B dX2_breakAhead_10 rfl 0 rfl ?_
    refine g_iload_n (q := 12) B dX2_breakAhead_11 rfl 1 rfl ?_
    refine g_put (n := (4 * i)) (ty := tyX2) (q := 15) B dX2_breakAhead_12 rfl rfl (cw_N hi (S ((4 * i)))) cls2 1 (by decide) w68 rfl rfl rfl (Nat.le_of_ble_eq_true rfl) ((uq (S ((4 * i))) 1 j)) (cw_N hi ((uq (S ((4 * i))) 1 j))) ?_
    refine g_aload_n (q := 16) B dX2_breakAhead_15 rfl 0 rfl ?_
    refine g_callV (n := (4 * i)) (ty := tyX2) (q := 19) (As := []) (st := []) B dX2_breakAhead_16 rfl (c_X2_loosen (l := xL X) (S := (us S ((4 * i)) ((uq (S ((4 * i))) 1 j)))) hi) eX2_loosen w361 (by decide) (us_eq _ _ _) (cw_N hi ((uq (S ((4 * i))) 1 j))) cls2 rfl rfl (Nat.le_of_ble_eq_true rfl) (g_k0 (fun Sy hSy => ?_))
    obtain ⟨hvSy, hfSy⟩ := hSy
    refine g_iconst (q := 20) B dX2_breakAhead_19 rfl ?_
    refine g_zret B E dX2_breakAhead_20 rfl (by decide) ?_
    refine ⟨zt (by omega), ?_, (fr_us 0 (by decide)).tr hfSy⟩
    rw [brkG, if_pos (by rw [vw_0]; omega), brkF, hvSy, vw_us0 S i (by decide) (by decide)]
  · refine g_iconst (q := 9) B dX2_breakAhead_8 rfl ?_
    refine g_zret B E dX2_breakAhead_9 rfl (by decide) ?_
    exact ⟨zf (by omega), by rw [brkG, if_neg (by rw [vw_0]; omega)], fr.rf⟩
set_option maxHeartbeats 4000000 in
theorem c_X2_reverseRing {Y : gY} {l : Launch} {S : SS} {i : Nat} (hi : i < 18) (hw : wf (vw S i)) : gM Y l mX2_reverseRing S [.ref (yA Y (4 * i))] (p0 (fun S' => vw S' i = revF (vw S i) ∧ fr S S' i)) := by
  refine gM_of (by decide) (Nat.le_of_ble_eq_true rfl) ?_
  intro X hXl B E
  obtain ⟨⟨hn0, hn16⟩, ⟨hb0, hb1⟩, ⟨hm0, hm1⟩, ⟨hs0, hs1⟩, ⟨hc0, hc1⟩, hct, hkw, how, hun⟩ := wfS hw
  show gW Y X S 0 [(0, .ref (yA Y (4 * i)))] []
  have lp2 : ∀ (fu : Nat) (m : Nat) (Sx : SS) (x1 : Int) , x1 = ((m : Int)) → (m : Int) ≤ S (4 * i) 0 → vw Sx i = rotF (vw S i) m → fr S Sx i → 17 - m < fu → gW Y X Sx 2 [(0, .ref (yA Y (4 * i))), (1, .int (iI x1))] [] := by
    intro fu
    induction fu with
    | zero =>
      intro m Sx x1 e_x1 hm hv hf hfu
      exact absurd hfu (Nat.not_lt_zero _)
    | succ fu ih =>
      intro m Sx x1 e_x1 hm hv hf hfu
      subst e_x1
      have h0x : Sx (4 * i) 0 = S (4 * i) 0 := by have e := congrFun hv 0; rw [rotF_lo (vw S i) m hn16 (Or.inl (by decide))] at e; exact e
      have hwx : wf (vw Sx i) := by rw [hv]; exact wf_rot hw m
      refine g_iload_n (q := 3) B dX2_reverseRing_2 rfl 1 rfl ?_
      refine g_aload_n (q := 4) B dX2_reverseRing_3 rfl 0 rfl ?_
      refine g_get (n := (4 * i)) (ty := tyX2) (q := 7) (v := .int (iI (Sx ((4 * i)) 0))) B dX2_reverseRing_4 rfl rfl (cw_N hi (Sx ((4 * i)))) cls2 0 (by decide) w65 rfl ?_
      refine g_iconst (q := 8) B dX2_reverseRing_7 rfl ?_
      refine g_isub (q := 9) B dX2_reverseRing_8 rfl ?_
      refine g_iload_n (q := 10) B dX2_reverseRing_9 rfl 1 rfl ?_
      refine g_isub (q := 11) B dX2_reverseRing_10 rfl ?_
      refine g_icmp_ge (t := 34) (q := 14) B dX2_reverseRing_11 (by decide) rfl ⟨by omega, by omega⟩ ⟨by omega, by omega⟩ (fun cq11 => ?_) (fun cq11 => ?_)
      · refine g_aload_n (q := 35) B dX2_reverseRing_34 rfl 0 rfl ?_
        refine g_callV (n := (4 * i)) (ty := tyX2) (q := 38) (As := []) (st := []) B dX2_reverseRing_35 rfl (c_X2_loosen (l := xL X) (S := Sx) hi) eX2_loosen w361 (by decide) rfl (cw_N hi (Sx ((4 * i)))) cls2 rfl rfl (Nat.le_of_ble_eq_true rfl) (g_k0 (fun Sz hSz => ?_))
        obtain ⟨hvSz, hfSz⟩ := hSz
        refine g_vret B E dX2_reverseRing_38 ?_
        refine ⟨rfl, ?_, hf.tr hfSz⟩
        rw [hvSz, hv, revF, rot_end (g := vw S i) ⟨hn0, hn16⟩ (m := (m : Int)) (by rw [vw_0]; omega) (by rw [vw_0]; omega)]
      · refine g_aload_n (q := 15) B dX2_reverseRing_14 rfl 0 rfl ?_
        refine g_iload_n (q := 16) B dX2_reverseRing_15 rfl 1 rfl ?_
        refine g_aload_n (q := 17) B dX2_reverseRing_16 rfl 0 rfl ?_
        refine g_get (n := (4 * i)) (ty := tyX2) (q := 20) (v := .int (iI (Sx ((4 * i)) 0))) B dX2_reverseRing_17 rfl rfl (cw_N hi (Sx ((4 * i)))) cls2 0 (by decide) w65 rfl ?_
        refine g_iconst (q := 21) B dX2_reverseRing_20 rfl ?_
        refine g_isub (q := 22) B dX2_reverseRing_21 rfl ?_
        refine g_iload_n (q := 23) B dX2_reverseRing_22 rfl 1 rfl ?_
        refine g_isub (q := 24) B dX2_reverseRing_23 rfl ?_
        refine g_callV (n := (4 * i)) (ty := tyX2) (q := 27) (As := [.int (iI ((m : Int))), .int (iI (((Sx ((4 * i)) 0) - 1) - ((m : Int))))]) (st := []) B dX2_reverseRing_24 rfl (c_X2_swapJewels (l := xL X) (S := Sx) hi hwx ((m : Int)) (((Sx ((4 * i)) 0) - 1) - ((m : Int))) ⟨by omega, by omega⟩ ⟨by omega, by omega⟩) eX2_swapJewels w487 (by decide) rfl (cw_N hi (Sx ((4 * i)))) cls2 rfl rfl (Nat.le_of_ble_eq_true rfl) (g_kV (fun Sy hSy => ?_))
        obtain ⟨hvSy, hfSy⟩ := hSy
        refine g_pop (q := 28) B dX2_reverseRing_27 rfl rfl ?_
        refine g_iinc (n := 1) (q := 31) B dX2_reverseRing_28 rfl rfl (by decide) (L' := [(1, .int (iI ((m : Int) + 1))), (0, .ref (yA Y (4 * i)))]) rfl ?_
        refine g_goto (q := 2) B dX2_reverseRing_31 (by decide) ?_
        refine g_sub [1, 0] rfl ?_
        exact ih (m + 1) Sy _ (by first | rfl | omega) (by first | assumption | omega) (by rw [hvSy, hv, swapG, if_pos (by rw [rotF_lo (vw S i) m hn16 (Or.inl (by decide)), vw_0]; omega), h0x]; exact rot_s (g := vw S i) ⟨hn0, hn16⟩ (m := (m : Int)) (by omega) (by rw [vw_0]; omega)) (by exact hf.tr hfSy) (by omega)
  refine g_iconst (q := 1) B dX2_reverseRing_0 rfl ?_
  refine g_istore_n (q := 2) B dX2_reverseRing_1 rfl (by decide) (L' := [(1, .int (iI 0)), (0, .ref (yA Y (4 * i)))]) rfl ?_
  refine g_sub [1, 0] rfl ?_
  exact lp2 _ 0 S _ (by first | rfl | omega) (by first | assumption | omega) (by exact (rotF_0 _).symm) (by exact fr.rf) (Nat.lt_succ_self _)
set_option maxHeartbeats 4000000 in
theorem c_X2_giveRun {Y : gY} {l : Launch} {S : SS} {i : Nat} (hi : i < 18) (hq : wq (vw S i)) (r o : Int) (hr : rI r) (ho : rI o) : gM Y l mX2_giveRun S [.ref (yA Y (4 * i)), .int (iI r), .int (iI o)] (pV (.int (bI ((0 ≤ r ∧ r < runsF (vw S i)) ∧ (o = -1 ∨ o = 0 ∨ o = 1)))) (fun S' => vw S' i = giveG (vw S i) r o ∧ fr S S' i)) := by
  refine gM_of (by decide) (Nat.le_of_ble_eq_true rfl) ?_
  intro X hXl B E
  obtain ⟨⟨hn0, hn16⟩, hc0, hc1⟩ : (0 ≤ S (4 * i) 0 ∧ S (4 * i) 0 ≤ 16) ∧ 0 ≤ S (4 * i) 5 ∧ S (4 * i) 5 < 65536 := id hq
  obtain ⟨hr0, hr1⟩ := hr
  obtain ⟨ho0, ho1⟩ := ho
  show gW Y X S 0 [(0, .ref (yA Y (4 * i))), (1, .int (iI r)), (2, .int (iI o))] []
  have lp19 : ∀ (fu : Nat) (p : Nat) (Sx : SS) (x3 : Int) , x3 = ((p : Int)) → (p : Int) ≤ S (4 * i) 0 → vw Sx i = givP (vw S i) r o p → fr S Sx i → 0 ≤ r ∧ r < runsF (vw S i) → (o = -1 ∨ o = 0 ∨ o = 1) → (S (4 * i) 0).toNat - p < fu → gW Y X Sx 19 [(0, .ref (yA Y (4 * i))), (1, .int (iI r)), (2, .int (iI o)), (3, .int (iI x3))] [] := by
    intro fu
    induction fu with
    | zero =>
      intro p Sx x3 e_x3 hp hv hf hg1 hg2 hfu
      exact absurd hfu (Nat.not_lt_zero _)
    | succ fu ih =>
      intro p Sx x3 e_x3 hp hv hf hg1 hg2 hfu
      subst e_x3
      have h0x : Sx (4 * i) 0 = S (4 * i) 0 := by have e := congrFun hv 0; rw [givP, if_neg (by omega)] at e; exact e
      have h5x : Sx (4 * i) 5 = S (4 * i) 5 := by have e := congrFun hv 5; rw [givP, if_neg (by omega)] at e; exact e
      have hrn : runF (vw Sx i) p = runF (vw S i) p := runF_congr h5x _
      refine g_iload_n (q := 20) B dX2_giveRun_19 rfl 3 rfl ?_
      refine g_aload_n (q := 21) B dX2_giveRun_20 rfl 0 rfl ?_
      refine g_get (n := (4 * i)) (ty := tyX2) (q := 24) (v := .int (iI (Sx ((4 * i)) 0))) B dX2_giveRun_21 rfl rfl (cw_N hi (Sx ((4 * i)))) cls2 0 (by decide) w65 rfl ?_
      refine g_icmp_ge (t := 48) (q := 27) B dX2_giveRun_24 (by decide) rfl ⟨by omega, by omega⟩ ⟨by omega, by omega⟩ (fun cq24 => ?_) (fun cq24 => ?_)
      · refine g_iconst (q := 49) B dX2_giveRun_48 rfl ?_
        refine g_zret B E dX2_giveRun_49 rfl (by decide) ?_
        exact ⟨zt ⟨hg1, hg2⟩, by rw [giveG, if_pos ⟨hg1, hg2⟩, hv, givP_n _ (by rw [vw_0]; omega)], hf⟩
      · refine g_aload_n (q := 28) B dX2_giveRun_27 rfl 0 rfl ?_
        refine g_iload_n (q := 29) B dX2_giveRun_28 rfl 3 rfl ?_
        refine g_callV (n := (4 * i)) (ty := tyX2) (q := 32) (As := [.int (iI ((p : Int)))]) (st := []) B dX2_giveRun_29 rfl (c_X2_runAt (l := xL X) (S := Sx) hi (by omega) (by omega) ((p : Int)) (by omega) (by omega)) eX2_runAt w423 (by decide) rfl (cw_N hi (Sx ((4 * i)))) cls2 rfl rfl (Nat.le_of_ble_eq_true rfl) (g_kE ?_)
        have := runF_in (vw Sx i) (p := (p : Int)) (by omega)
        refine g_iload_n (q := 33) B dX2_giveRun_32 rfl 1 rfl ?_
        refine g_icmp_ne (t := 42) (q := 36) B dX2_giveRun_33 (by decide) rfl ⟨by omega, by omega⟩ ⟨by omega, by omega⟩ (fun cq33 => ?_) (fun cq33 => ?_)
        · refine g_iinc (n := 3) (q := 45) B dX2_giveRun_42 rfl rfl (by decide) (L' := [(3, .int (iI ((p : Int) + 1))), (0, .ref (yA Y (4 * i))), (1, .int (iI r)), (2, .int (iI o))]) rfl ?_
          refine g_goto (q := 19) B dX2_giveRun_45 (by decide) ?_
          refine g_sub [1, 2, 3, 0] rfl ?_
          exact ih (p + 1) Sx _ (by first | rfl | omega) (by first | assumption | omega) (by rw [hv, givP_f _ (by rw [← hrn]; exact cq33)]) (by first | assumption | omega) (by first | assumption | omega) (by first | assumption | omega) (by omega)
        · refine g_aload_n (q := 37) B dX2_giveRun_36 rfl 0 rfl ?_
          refine g_iload_n (q := 38) B dX2_giveRun_37 rfl 3 rfl ?_
          refine g_iload_n (q := 39) B dX2_giveRun_38 rfl 2 rfl ?_
          refine g_callV (n := (4 * i)) (ty := tyX2) (q := 42) (As := [.int (iI ((p : Int))), .int (iI o)]) (st := []) B dX2_giveRun_39 rfl (c_X2_putOwner (l := xL X) (S := Sx) hi ((p : Int)) o (by omega) (by omega)) eX2_putOwner w365 (by decide) rfl (cw_N hi (Sx ((4 * i)))) cls2 rfl rfl (Nat.le_of_ble_eq_true rfl) (g_k0 (fun Sy hSy => ?_))
          obtain ⟨hvSy, hfSy⟩ := hSy
          refine g_iinc (n := 3) (q := 45) B dX2_giveRun_42 rfl rfl (by decide) (L' := [(3, .int (iI ((p : Int) + 1))), (0, .ref (yA Y (4 * i))), (1, .int (iI r)), (2, .int (iI o))]) rfl ?_
          refine g_goto (q := 19) B dX2_giveRun_45 (by decide) ?_
          refine g_sub [1, 2, 3, 0] rfl ?_
          exact ih (p + 1) Sy _ (by first | rfl | omega) (by first | assumption | omega) (by rw [hvSy, hv, givP_t _ (by rw [← hrn]; exact cq33)]) (by exact hf.tr hfSy) (by first | assumption | omega) (by first | assumption | omega) (by omega)
  refine g_aload_n (q := 1) B dX2_giveRun_0 rfl 0 rfl ?_
  refine g_iload_n (q := 2) B dX2_giveRun_1 rfl 1 rfl ?_
  refine g_callV (n := (4 * i)) (ty := tyX2) (q := 5) (As := [.int (iI r)]) (st := []) B dX2_giveRun_2 rfl (c_X2_hasRun (l := xL X) (S := S) hi hq r ⟨by omega, by omega⟩) eX2_hasRun w441 (by decide) rfl (cw_N hi (S ((4 * i)))) cls2 rfl rfl (Nat.le_of_ble_eq_true rfl) (g_kE ?_)
  have := runsF_in (vw S i)
  refine g_ifb_eq (t := 15) (q := 8) B dX2_giveRun_5 (by decide) rfl (fun cq5 => ?_) (fun cq5 => ?_)
  · refine g_iconst (q := 16) B dX2_giveRun_15 rfl ?_
    refine g_zret B E dX2_giveRun_16 rfl (by decide) ?_
    exact ⟨zf (by omega), by rw [giveG, if_neg (by omega)], fr.rf⟩
  · refine g_iload_n (q := 9) B dX2_giveRun_8 rfl 2 rfl ?_
    refine g_callSN (q := 12) (As := [.int (iI o)]) (st := []) B dX2_giveRun_9 rfl (c_X7_isOwner (l := xL X) (S := S) o ⟨by omega, by omega⟩) eX7_isOwner w449 (by decide) rfl rfl (Nat.le_of_ble_eq_true rfl) (g_kE ?_)
    refine g_ifb_ne (t := 17) (q := 15) B dX2_giveRun_12 (by decide) rfl (fun cq12 => ?_) (fun cq12 => ?_)
    · refine g_iconst (q := 18) B dX2_giveRun_17 rfl ?_
      refine g_istore_n (q := 19) B dX2_giveRun_18 rfl (by decide) (L' := [(3, .int (iI 0)), (0, .ref (yA Y (4 * i))), (1, .int (iI r)), (2, .int (iI o))]) rfl ?_
      refine g_sub [1, 2, 3, 0] rfl ?_
      exact lp19 _ 0 S _ (by first | rfl | omega) (by first | assumption | omega) (by exact (givP_0 _ _ _).symm) (by exact fr.rf) (by first | assumption | omega) (by first | assumption | omega) (Nat.lt_succ_self _)
    · refine g_iconst (q := 16) B dX2_giveRun_15 rfl ?_
      refine g_zret B E dX2_giveRun_16 rfl (by decide) ?_
      exact ⟨zf (by omega), by rw [giveG, if_neg (by omega)], fr.rf⟩
set_option maxHeartbeats 4000000 in
theorem c_X2_takeRun {Y : gY} {l : Launch} {S : SS} {i : Nat} (hi : i < 18) (hw : wf (vw S i)) (r : Int) (hr : rI r) : gM Y l mX2_takeRun S [.ref (yA Y (4 * i)), .int (iI r)] (pV (.int (bI ((0 ≤ r ∧ r < runsF (vw S i)) ∧ whyF (vw S i) r = 0))) (fun S' => vw S' i = takeG (vw S i) r ∧ fr S S' i)) := by
  refine gM_of (by decide) (Nat.le_of_ble_eq_true rfl) ?_
  intro X hXl B E
  obtain ⟨⟨hn0, hn16⟩, ⟨hb0, hb1⟩, ⟨hm0, hm1⟩, ⟨hs0, hs1⟩, ⟨hc0, hc1⟩, hct, hkw, how, hun⟩ := wfS hw
  obtain ⟨hr0, hr1⟩ := hr
  show gW Y X S 0 [(0, .ref (yA Y (4 * i))), (1, .int (iI r))] []
  refine g_aload_n (q := 1) B dX2_takeRun_0 rfl 0 rfl ?_
  refine g_iload_n (q := 2) B dX2_takeRun_1 rfl 1 rfl ?_
  refine g_callV (n := (4 * i)) (ty := tyX2) (q := 5) (As := [.int (iI r)]) (st := []) B dX2_takeRun_2 rfl (c_X2_hasRun (l := xL X) (S := S) hi (wf.q hw) r ⟨by omega, by omega⟩) eX2_hasRun w441 (by decide) rfl (cw_N hi (S ((4 * i)))) cls2 rfl rfl (Nat.le_of_ble_eq_true rfl) (g_kE ?_)
  have := runsF_in (vw S i)
  refine g_ifb_eq (t := 16) (q := 8) B dX2_takeRun_5 (by decide) rfl (fun cq5 => ?_) (fun cq5 => ?_)
  · refine g_iconst (q := 17) B dX2_takeRun_16 rfl ?_
    refine g_zret B E dX2_takeRun_17 rfl (by decide) ?_
    exact ⟨zf (by omega), by rw [takeG, if_neg (by omega)], fr.rf⟩
  · refine g_aload_n (q := 9) B dX2_takeRun_8 rfl 0 rfl ?_
    refine g_iload_n (q := 10) B dX2_takeRun_9 rfl 1 rfl ?_
    refine g_callV (n := (4 * i)) (ty := tyX2) (q := 13) (As := [.int (iI r)]) (st := []) B dX2_takeRun_10 rfl (c_X2_reasonAgainstTaking (l := xL X) (S := S) hi hw r (by omega) (by omega)) eX2_reasonAgainstTaking w463 (by decide) rfl (cw_N hi (S ((4 * i)))) cls2 rfl rfl (Nat.le_of_ble_eq_true rfl) (g_kE ?_)
    have := whyF_in (vw S i) r
    refine g_if_eq (t := 18) (q := 16) B dX2_takeRun_13 (by decide) rfl ⟨by omega, by omega⟩ (fun cq13 => ?_) (fun cq13 => ?_)
    · refine g_aload_n (q := 19) B dX2_takeRun_18 rfl 0 rfl ?_
      refine g_iload_n (q := 20) B dX2_takeRun_19 rfl 1 rfl ?_
      refine g_aload_n (q := 21) B dX2_takeRun_20 rfl 0 rfl ?_
      refine g_get (n := (4 * i)) (ty := tyX2) (q := 24) (v := .int (iI (S ((4 * i)) 2))) B dX2_takeRun_21 rfl rfl (cw_N hi (S ((4 * i)))) cls2 2 (by decide) w71 rfl ?_
      refine g_callV (n := (4 * i)) (ty := tyX2) (q := 27) (As := [.int (iI r), .int (iI (S ((4 * i)) 2))]) (st := []) B dX2_takeRun_24 rfl (c_X2_giveRun (l := xL X) (S := S) hi (wf.q hw) r (S ((4 * i)) 2) ⟨by omega, by omega⟩ ⟨by omega, by omega⟩) eX2_giveRun w437 (by decide) rfl (cw_N hi (S ((4 * i)))) cls2 rfl rfl (Nat.le_of_ble_eq_true rfl) (g_kV (fun Sy hSy => ?_))
      obtain ⟨hvSy, hfSy⟩ := hSy
      have e2 : Sy (4 * i) 2 = S (4 * i) 2 := by have e := congrFun hvSy 2; rw [giveG, if_pos ⟨by omega, by omega⟩, giveF_lo _ _ _ (by decide)] at e; exact e
      refine g_pop (q := 28) B dX2_takeRun_27 rfl rfl ?_
      refine g_aload_n (q := 29) B dX2_takeRun_28 rfl 0 rfl ?_
      refine g_iconst (q := 30) B dX2_takeRun_29 rfl ?_
      refine g_aload_n (q := 31) B dX2_takeRun_30 rfl 0 rfl ?_
      refine g_get (n := (4 * i)) (ty := tyX2) (q := 34) (v := .int (iI (Sy ((4 * i)) 2))) B dX2_takeRun_31 rfl rfl (cw_N hi (Sy ((4 * i)))) cls2 2 (by decide) w71 rfl ?_
      refine g_isub (q := 35) B dX2_takeRun_34 rfl ?_
      refine g_put (n := (4 * i)) (ty := tyX2) (q := 38) B dX2_takeRun_35 rfl rfl (cw_N hi (Sy ((4 * i)))) cls2 2 (by decide) w71 rfl rfl rfl (Nat.le_of_ble_eq_true rfl) ((uq (Sy ((4 * i))) 2 (1 - (Sy ((4 * i)) 2)))) (cw_N hi ((uq (Sy ((4 * i))) 2 (1 - (Sy ((4 * i)) 2))))) ?_
      refine g_iconst (q := 39) B dX2_takeRun_38 rfl ?_
      refine g_zret B E dX2_takeRun_39 rfl (by decide) ?_
      refine ⟨zt (by omega), ?_, hfSy.tr (fr_us 0 (by decide))⟩
      rw [takeG, if_pos (by omega), takeF, vw_us0 Sy i (by decide) (by decide), hvSy, e2, giveG, if_pos ⟨by omega, by omega⟩]
      rfl
    · refine g_iconst (q := 17) B dX2_takeRun_16 rfl ?_
      refine g_zret B E dX2_takeRun_17 rfl (by decide) ?_
      exact ⟨zf (by omega), by rw [takeG, if_neg (by omega)], fr.rf⟩
set_option maxHeartbeats 4000000 in
theorem c_X2_dealRuns {Y : gY} {l : Launch} {S : SS} {i : Nat} (hi : i < 18) (hw : wf (vw S i)) (s : Int) (hs : rI s) : gM Y l mX2_dealRuns S [.ref (yA Y (4 * i)), .int (iI s)] (pV (.int (bI (s = 0 ∨ s = 1))) (fun S' => vw S' i = dealG (vw S i) s ∧ fr S S' i)) := by
  refine gM_of (by decide) (Nat.le_of_ble_eq_true rfl) ?_
  intro X hXl B E
  obtain ⟨⟨hn0, hn16⟩, ⟨hb0, hb1⟩, ⟨hm0, hm1⟩, ⟨hs0, hs1⟩, ⟨hc0, hc1⟩, hct, hkw, how, hun⟩ := wfS hw
  obtain ⟨hsa, hsb⟩ := hs
  show gW Y X S 0 [(0, .ref (yA Y (4 * i))), (1, .int (iI s))] []
  have lp11 : ∀ (fu : Nat) (p : Nat) (Sx : SS) (x2 : Int) , x2 = ((p : Int)) → (p : Int) ≤ S (4 * i) 0 → vw Sx i = deaP (vw S i) s p → fr S Sx i → (s = 0 ∨ s = 1) → (S (4 * i) 0).toNat - p < fu → gW Y X Sx 11 [(0, .ref (yA Y (4 * i))), (1, .int (iI s)), (2, .int (iI x2))] [] := by
    intro fu
    induction fu with
    | zero =>
      intro p Sx x2 e_x2 hp hv hf hg hfu
      exact absurd hfu (Nat.not_lt_zero _)
    | succ fu ih =>
      intro p Sx x2 e_x2 hp hv hf hg hfu
      subst e_x2
      have h0x : Sx (4 * i) 0 = S (4 * i) 0 := by have e := congrFun hv 0; rw [deaP, if_neg (by omega)] at e; exact e
      have h5x : Sx (4 * i) 5 = S (4 * i) 5 := by have e := congrFun hv 5; rw [deaP, if_neg (by omega)] at e; exact e
      have hrn : runF (vw Sx i) p = runF (vw S i) p := runF_congr h5x _
      refine g_iload_n (q := 12) B dX2_dealRuns_11 rfl 2 rfl ?_
      refine g_aload_n (q := 13) B dX2_dealRuns_12 rfl 0 rfl ?_
      refine g_get (n := (4 * i)) (ty := tyX2) (q := 16) (v := .int (iI (Sx ((4 * i)) 0))) B dX2_dealRuns_13 rfl rfl (cw_N hi (Sx ((4 * i)))) cls2 0 (by decide) w65 rfl ?_
      refine g_icmp_ge (t := 39) (q := 19) B dX2_dealRuns_16 (by decide) rfl ⟨by omega, by omega⟩ ⟨by omega, by omega⟩ (fun cq16 => ?_) (fun cq16 => ?_)
      · refine g_iconst (q := 40) B dX2_dealRuns_39 rfl ?_
        refine g_zret B E dX2_dealRuns_40 rfl (by decide) ?_
        exact ⟨zt hg, by rw [dealG, if_pos hg, hv, deaP_n _ (by rw [vw_0]; omega)], hf⟩
      · refine g_aload_n (q := 20) B dX2_dealRuns_19 rfl 0 rfl ?_
        refine g_iload_n (q := 21) B dX2_dealRuns_20 rfl 2 rfl ?_
        refine g_iload_n (q := 22) B dX2_dealRuns_21 rfl 1 rfl ?_
        refine g_aload_n (q := 23) B dX2_dealRuns_22 rfl 0 rfl ?_
        refine g_iload_n (q := 24) B dX2_dealRuns_23 rfl 2 rfl ?_
        refine g_callV (n := (4 * i)) (ty := tyX2) (q := 27) (As := [.int (iI ((p : Int)))]) (st := [.int (iI s), .int (iI ((p : Int))), .ref (yA Y (4 * i))]) B dX2_dealRuns_24 rfl (c_X2_runAt (l := xL X) (S := Sx) hi (by omega) (by omega) ((p : Int)) (by omega) (by omega)) eX2_runAt w423 (by decide) rfl (cw_N hi (Sx ((4 * i)))) cls2 rfl rfl (Nat.le_of_ble_eq_true rfl) (g_kE ?_)
        have := runF_in (vw Sx i) (p := (p : Int)) (by omega)
        refine g_iadd (q := 28) B dX2_dealRuns_27 rfl ?_
        refine g_iconst (q := 29) B dX2_dealRuns_28 rfl ?_
        refine g_iand (v := (iI ((s + runF (vw Sx i) (p : Int)) % 2))) (q := 30) B dX2_dealRuns_29 rfl (iI_and1 (by omega) (by omega)) ?_
        refine g_callV (n := (4 * i)) (ty := tyX2) (q := 33) (As := [.int (iI ((p : Int))), .int (iI ((s + runF (vw Sx i) (p : Int)) % 2))]) (st := []) B dX2_dealRuns_30 rfl (c_X2_putOwner (l := xL X) (S := Sx) hi ((p : Int)) ((s + runF (vw Sx i) (p : Int)) % 2) (by omega) (by omega)) eX2_putOwner w365 (by decide) rfl (cw_N hi (Sx ((4 * i)))) cls2 rfl rfl (Nat.le_of_ble_eq_true rfl) (g_k0 (fun Sy hSy => ?_))
        obtain ⟨hvSy, hfSy⟩ := hSy
        refine g_iinc (n := 2) (q := 36) B dX2_dealRuns_33 rfl rfl (by decide) (L' := [(2, .int (iI ((p : Int) + 1))), (0, .ref (yA Y (4 * i))), (1, .int (iI s))]) rfl ?_
        refine g_goto (q := 11) B dX2_dealRuns_36 (by decide) ?_
        refine g_sub [1, 2, 0] rfl ?_
        exact ih (p + 1) Sy _ (by first | rfl | omega) (by first | assumption | omega) (by rw [hvSy, hrn, hv, deaP_s]) (by exact hf.tr hfSy) (by first | assumption | omega) (by omega)
  refine g_iload_n (q := 1) B dX2_dealRuns_0 rfl 1 rfl ?_
  refine g_callSN (q := 4) (As := [.int (iI s)]) (st := []) B dX2_dealRuns_1 rfl (c_X7_isSister (l := xL X) (S := S) s ⟨by omega, by omega⟩) eX7_isSister w475 (by decide) rfl rfl (Nat.le_of_ble_eq_true rfl) (g_kE ?_)
  refine g_ifb_ne (t := 9) (q := 7) B dX2_dealRuns_4 (by decide) rfl (fun cq4 => ?_) (fun cq4 => ?_)
  · refine g_iconst (q := 10) B dX2_dealRuns_9 rfl ?_
    refine g_istore_n (q := 11) B dX2_dealRuns_10 rfl (by decide) (L' := [(2, .int (iI 0)), (0, .ref (yA Y (4 * i))), (1, .int (iI s))]) rfl ?_
    refine g_sub [1, 2, 0] rfl ?_
    exact lp11 _ 0 S _ (by first | rfl | omega) (by first | assumption | omega) (by exact (deaP_0 _ _).symm) (by exact fr.rf) (by first | assumption | omega) (Nat.lt_succ_self _)
  · refine g_iconst (q := 8) B dX2_dealRuns_7 rfl ?_
    refine g_zret B E dX2_dealRuns_8 rfl (by decide) ?_
    exact ⟨zf (by omega), by rw [dealG, if_neg (by omega)], fr.rf⟩
set_option maxHeartbeats 4000000 in
theorem c_X2_chooseSetting {Y : gY} {l : Launch} {S : SS} {i : Nat} (hi : i < 18) (v : Int) (hx : rI v) : gM Y l mX2_chooseSetting S [.ref (yA Y (4 * i)), .int (iI v)] (pV (.int (bI (v = 0 ∨ v = 1))) (fun S' => vw S' i = setG (vw S i) v ∧ fr S S' i)) := by
  refine gM_of (by decide) (Nat.le_of_ble_eq_true rfl) ?_
  intro X hXl B E
  obtain ⟨hx0, hx1⟩ := hx
  show gW Y X S 0 [(0, .ref (yA Y (4 * i))), (1, .int (iI v))] []
  refine g_iload_n (q := 1) B dX2_chooseSetting_0 rfl 1 rfl ?_
  refine g_callSN (q := 4) (As := [.int (iI v)]) (st := []) B dX2_chooseSetting_1 rfl (c_X7_isSetting (l := xL X) (S := S) v ⟨by omega, by omega⟩) eX7_isSetting w480 (by decide) rfl rfl (Nat.le_of_ble_eq_true rfl) (g_kE ?_)
  refine g_ifb_ne (t := 9) (q := 7) B dX2_chooseSetting_4 (by decide) rfl (fun cq4 => ?_) (fun cq4 => ?_)
  · refine g_aload_n (q := 10) B dX2_chooseSetting_9 rfl 0 rfl ?_
    refine g_iload_n (q := 11) B dX2_chooseSetting_10 rfl 1 rfl ?_
    refine g_put (n := (4 * i)) (ty := tyX2) (q := 14) B dX2_chooseSetting_11 rfl rfl (cw_N hi (S ((4 * i)))) cls2 4 (by decide) w75 rfl rfl rfl (Nat.le_of_ble_eq_true rfl) ((uq (S ((4 * i))) 4 v)) (cw_N hi ((uq (S ((4 * i))) 4 v))) ?_
    refine g_iconst (q := 15) B dX2_chooseSetting_14 rfl ?_
    refine g_zret B E dX2_chooseSetting_15 rfl (by decide) ?_
    exact ⟨zt (by omega), by rw [setG, if_pos (by omega), vw_us0 S i (by decide) (by decide)], fr_us 0 (by decide)⟩
  · refine g_iconst (q := 8) B dX2_chooseSetting_7 rfl ?_
    refine g_zret B E dX2_chooseSetting_8 rfl (by decide) ?_
    exact ⟨zf (by omega), by rw [setG, if_neg (by omega)], fr.rf⟩
set_option maxHeartbeats 4000000 in
theorem c_X2_setCut {Y : gY} {l : Launch} {S : SS} {i : Nat} (hi : i < 18) (hw : wf (vw S i)) (p b : Int) (hp : rI p) (hb : b = 0 ∨ b = 1) : gM Y l mX2_setCut S [.ref (yA Y (4 * i)), .int (iI p), .int (iI b)] (pV (.int (bI (1 ≤ p ∧ p < S (4 * i) 0))) (fun S' => vw S' i = cutG (vw S i) p b ∧ fr S S' i)) := by
  refine gM_of (by decide) (Nat.le_of_ble_eq_true rfl) ?_
  intro X hXl B E
  obtain ⟨⟨hn0, hn16⟩, ⟨hb0, hb1⟩, ⟨hm0, hm1⟩, ⟨hs0, hs1⟩, ⟨hc0, hc1⟩, hct, hkw, how, hun⟩ := wfS hw
  obtain ⟨hp0, hp1⟩ := hp
  have hpw : p < 16 → (2 : Int) ^ p.toNat ≤ 32768 ∧ 1 ≤ (2 : Int) ^ p.toNat := fun h => pow2_lt h
  have e2p : (1 : Int) * 2 ^ p.toNat = ((2 ^ p.toNat : Nat) : Int) := by rw [Int.one_mul]; exact (Int.natCast_pow 2 _).symm
  have ecu : S (4 * i) 5 = (((S (4 * i) 5).toNat : Nat) : Int) := by omega
  show gW Y X S 0 [(0, .ref (yA Y (4 * i))), (1, .int (iI p)), (2, .int (iI b))] []
  refine g_aload_n (q := 1) B dX2_setCut_0 rfl 0 rfl ?_
  refine g_iload_n (q := 2) B dX2_setCut_1 rfl 1 rfl ?_
  refine g_callV (n := (4 * i)) (ty := tyX2) (q := 5) (As := [.int (iI p)]) (st := []) B dX2_setCut_2 rfl (c_X2_canBeCutAt (l := xL X) (S := S) hi hw p ⟨by omega, by omega⟩) eX2_canBeCutAt w415 (by decide) rfl (cw_N hi (S ((4 * i)))) cls2 rfl rfl (Nat.le_of_ble_eq_true rfl) (g_kE ?_)
  refine g_ifb_ne (t := 10) (q := 8) B dX2_setCut_5 (by decide) rfl (fun cq5 => ?_) (fun cq5 => ?_)
  · refine g_iload_n (q := 11) B dX2_setCut_10 rfl 2 rfl ?_
    refine g_if_eq (t := 29) (q := 14) B dX2_setCut_11 (by decide) rfl ⟨by omega, by omega⟩ (fun cq11 => ?_) (fun cq11 => ?_)
    · refine g_aload_n (q := 30) B dX2_setCut_29 rfl 0 rfl ?_
      refine g_iload_n (q := 31) B dX2_setCut_30 rfl 1 rfl ?_
      refine g_callV (n := (4 * i)) (ty := tyX2) (q := 34) (As := [.int (iI p)]) (st := []) B dX2_setCut_31 rfl (c_X2_isCut (l := xL X) (S := S) hi hw p (by omega) (by omega)) eX2_isCut w419 (by decide) rfl (cw_N hi (S ((4 * i)))) cls2 rfl rfl (Nat.le_of_ble_eq_true rfl) (g_kE ?_)
      refine g_ifb_eq (t := 68) (q := 37) B dX2_setCut_34 (by decide) rfl (fun cq34 => ?_) (fun cq34 => ?_)
      · refine g_iconst (q := 69) B dX2_setCut_68 rfl ?_
        refine g_zret B E dX2_setCut_69 rfl (by decide) ?_
        refine ⟨zt (by omega), ?_, fr.rf⟩
        rw [cutG, if_pos (by rw [vw_0]; omega), cutF, if_neg (by omega), cutOff_no (by rw [vw_5]; exact Bool.eq_false_iff.mpr cq34)]
      · refine g_aload_n (q := 38) B dX2_setCut_37 rfl 0 rfl ?_
        refine g_dup (q := 39) B dX2_setCut_38 rfl rfl ?_
        refine g_get (n := (4 * i)) (ty := tyX2) (q := 42) (v := .int (iI (S ((4 * i)) 5))) B dX2_setCut_39 rfl rfl (cw_N hi (S ((4 * i)))) cls2 5 (by decide) w77 rfl ?_
        refine g_iconst (q := 43) B dX2_setCut_42 rfl ?_
        refine g_iload_n (q := 44) B dX2_setCut_43 rfl 1 rfl ?_
        refine g_ishl (v := (iI (1 * 2 ^ p.toNat))) (q := 45) B dX2_setCut_44 rfl (by have := hpw (by omega); exact iI_shl (by omega) (by omega) (by omega) (by omega)) ?_
        refine g_iconst (q := 46) B dX2_setCut_45 rfl ?_
        refine g_ixor (v := (iI (1 * 2 ^ p.toNat) ^^^ iI (-1))) (q := 47) B dX2_setCut_46 rfl (rfl) ?_
        refine g_iand (v := (iI ((((S (4 * i) 5).toNat ^^^ 2 ^ p.toNat : Nat) : Int)))) (q := 48) B dX2_setCut_47 rfl (clr_bit hc0 hc1 (by omega) (by omega) cq34) ?_
        refine g_put (n := (4 * i)) (ty := tyX2) (q := 51) B dX2_setCut_48 rfl rfl (cw_N hi (S ((4 * i)))) cls2 5 (by decide) w77 rfl rfl rfl (Nat.le_of_ble_eq_true rfl) ((uq (S ((4 * i))) 5 ((((S (4 * i) 5).toNat ^^^ 2 ^ p.toNat : Nat) : Int)))) (cw_N hi ((uq (S ((4 * i))) 5 ((((S (4 * i) 5).toNat ^^^ 2 ^ p.toNat : Nat) : Int))))) ?_
        refine g_aload_n (q := 52) B dX2_setCut_51 rfl 0 rfl ?_
        refine g_aload_n (q := 53) B dX2_setCut_52 rfl 0 rfl ?_
        refine g_iload_n (q := 54) B dX2_setCut_53 rfl 1 rfl ?_
        have hxl := xor_lt (c := (S (4 * i) 5).toNat) (p := p.toNat) (by omega) (by omega)
        have hvt : vw (us S (4 * i) (uq (S (4 * i)) 5 (((S (4 * i) 5).toNat ^^^ 2 ^ p.toNat : Nat) : Int))) i = uncF (vw S i) p := vw_us0 S i (by decide) (by decide)
        have h0t : uncF (vw S i) p 0 = S (4 * i) 0 := rfl
        have hwq : wq (uncF (vw S i) p) := ⟨⟨hn0, hn16⟩, by rw [uncF, uq_eq]; omega, by rw [uncF, uq_eq]; exact (by omega : (((S (4 * i) 5).toNat ^^^ 2 ^ p.toNat : Nat) : Int) < 65536)⟩
        refine g_callV (n := (4 * i)) (ty := tyX2) (q := 57) (As := [.int (iI p)]) (st := [.ref (yA Y (4 * i))]) B dX2_setCut_54 rfl (c_X2_runAt (l := xL X) (S := (us S ((4 * i)) ((uq (S ((4 * i))) 5 ((((S (4 * i) 5).toNat ^^^ 2 ^ p.toNat : Nat) : Int)))))) hi (by rw [us_eq, uq_eq]; omega) (by rw [us_eq, uq_eq]; omega) p (by omega) (by omega)) eX2_runAt w423 (by decide) (us_eq _ _ _) (cw_N hi ((uq (S ((4 * i))) 5 ((((S (4 * i) 5).toNat ^^^ 2 ^ p.toNat : Nat) : Int))))) cls2 rfl rfl (Nat.le_of_ble_eq_true rfl) (g_kE ?_)
        have := runF_in (vw (us S ((4 * i)) ((uq (S ((4 * i))) 5 ((((S (4 * i) 5).toNat ^^^ 2 ^ p.toNat : Nat) : Int))))) i) (p := p) (by omega)
        refine g_aload_n (q := 58) B dX2_setCut_57 rfl 0 rfl ?_
        refine g_iload_n (q := 59) B dX2_setCut_58 rfl 1 rfl ?_
        refine g_iconst (q := 60) B dX2_setCut_59 rfl ?_
        refine g_isub (q := 61) B dX2_setCut_60 rfl ?_
        refine g_callV (n := (4 * i)) (ty := tyX2) (q := 64) (As := [.int (iI (p - 1))]) (st := [.int (iI (runF (vw (us S ((4 * i)) ((uq (S ((4 * i))) 5 ((((S (4 * i) 5).toNat ^^^ 2 ^ p.toNat : Nat) : Int))))) i) p)), .ref (yA Y (4 * i))]) B dX2_setCut_61 rfl (c_X2_ownerAt (l := xL X) (S := (us S ((4 * i)) ((uq (S ((4 * i))) 5 ((((S (4 * i) 5).toNat ^^^ 2 ^ p.toNat : Nat) : Int)))))) hi (p - 1) (by omega) (by omega)) eX2_ownerAt w433 (by decide) (us_eq _ _ _) (cw_N hi ((uq (S ((4 * i))) 5 ((((S (4 * i) 5).toNat ^^^ 2 ^ p.toNat : Nat) : Int))))) cls2 rfl rfl (Nat.le_of_ble_eq_true rfl) (g_kE ?_)
        have how1 := how (p - 1) (by omega) (by omega)
        have hot : us S (4 * i) (uq (S (4 * i)) 5 (((S (4 * i) 5).toNat ^^^ 2 ^ p.toNat : Nat) : Int)) (4 * i + 3) (p - 1) = S (4 * i + 3) (p - 1) := by rw [us_a (show 4 * i + 3 ≠ 4 * i by omega)]
        refine g_callV (n := (4 * i)) (ty := tyX2) (q := 67) (As := [.int (iI (runF (vw (us S ((4 * i)) ((uq (S ((4 * i))) 5 ((((S (4 * i) 5).toNat ^^^ 2 ^ p.toNat : Nat) : Int))))) i) p)), .int (iI ((us S ((4 * i)) ((uq (S ((4 * i))) 5 ((((S (4 * i) 5).toNat ^^^ 2 ^ p.toNat : Nat) : Int))))) (4 * i + 3) (p - 1)))]) (st := []) B dX2_setCut_64 rfl (c_X2_giveRun (l := xL X) (S := (us S ((4 * i)) ((uq (S ((4 * i))) 5 ((((S (4 * i) 5).toNat ^^^ 2 ^ p.toNat : Nat) : Int)))))) hi (by rw [hvt]; exact hwq) (runF (vw (us S ((4 * i)) ((uq (S ((4 * i))) 5 ((((S (4 * i) 5).toNat ^^^ 2 ^ p.toNat : Nat) : Int))))) i) p) ((us S ((4 * i)) ((uq (S ((4 * i))) 5 ((((S (4 * i) 5).toNat ^^^ 2 ^ p.toNat : Nat) : Int))))) (4 * i + 3) (p - 1)) ⟨by omega, by omega⟩ ⟨by omega, by omega⟩) eX2_giveRun w437 (by decide) (us_eq _ _ _) (cw_N hi ((uq (S ((4 * i))) 5 ((((S (4 * i) 5).toNat ^^^ 2 ^ p.toNat : Nat) : Int))))) cls2 rfl rfl (Nat.le_of_ble_eq_true rfl) (g_kV (fun Sy hSy => ?_))
        obtain ⟨hvSy, hfSy⟩ := hSy
        refine g_pop (q := 68) B dX2_setCut_67 rfl rfl ?_
        refine g_iconst (q := 69) B dX2_setCut_68 rfl ?_
        refine g_zret B E dX2_setCut_69 rfl (by decide) ?_
        refine ⟨zt (by omega), ?_, (fr_us 0 (by decide)).tr hfSy⟩
        have hrl := runF_lt (g := uncF (vw S i) p) (by rw [h0t]; omega) (p := p) (by omega)
        have hr0 := runF_in (uncF (vw S i) p) (p := p) (by omega)
        rw [cutG, if_pos (by rw [vw_0]; omega), cutF, if_neg (by omega), cutOffF, if_pos (by rw [vw_5]; exact cq34), hvSy, hot, hvt, giveG, if_pos ⟨⟨hr0.1, hrl⟩, by omega⟩, vw_o S i (by omega) (by omega)]
    · refine g_aload_n (q := 15) B dX2_setCut_14 rfl 0 rfl ?_
      refine g_dup (q := 16) B dX2_setCut_15 rfl rfl ?_
      refine g_get (n := (4 * i)) (ty := tyX2) (q := 19) (v := .int (iI (S ((4 * i)) 5))) B dX2_setCut_16 rfl rfl (cw_N hi (S ((4 * i)))) cls2 5 (by decide) w77 rfl ?_
      refine g_iconst (q := 20) B dX2_setCut_19 rfl ?_
      refine g_iload_n (q := 21) B dX2_setCut_20 rfl 1 rfl ?_
      refine g_ishl (v := (iI (1 * 2 ^ p.toNat))) (q := 22) B dX2_setCut_21 rfl (by have := hpw (by omega); exact iI_shl (by omega) (by omega) (by omega) (by omega)) ?_
      refine g_ior (v := (iI ((((S (4 * i) 5).toNat ||| 2 ^ p.toNat : Nat) : Int)))) (q := 23) B dX2_setCut_22 rfl (by rw [ecu, e2p]; exact iI_orN _ _) ?_
      refine g_put (n := (4 * i)) (ty := tyX2) (q := 26) B dX2_setCut_23 rfl rfl (cw_N hi (S ((4 * i)))) cls2 5 (by decide) w77 rfl rfl rfl (Nat.le_of_ble_eq_true rfl) ((uq (S ((4 * i))) 5 ((((S (4 * i) 5).toNat ||| 2 ^ p.toNat : Nat) : Int)))) (cw_N hi ((uq (S ((4 * i))) 5 ((((S (4 * i) 5).toNat ||| 2 ^ p.toNat : Nat) : Int))))) ?_
      refine g_goto (q := 68) B dX2_setCut_26 (by decide) ?_
      refine g_iconst (q := 69) B dX2_setCut_68 rfl ?_
      refine g_zret B E dX2_setCut_69 rfl (by decide) ?_
      refine ⟨zt (by omega), ?_, fr_us 0 (by decide)⟩
      rw [cutG, if_pos (by rw [vw_0]; omega), cutF, if_pos (by omega), cutOnF, vw_us0 S i (by decide) (by decide)]
      rfl
  · refine g_iconst (q := 9) B dX2_setCut_8 rfl ?_
    refine g_zret B E dX2_setCut_9 rfl (by decide) ?_
    exact ⟨zf (by omega), by rw [cutG, if_neg (by rw [vw_0]; omega)], fr.rf⟩
