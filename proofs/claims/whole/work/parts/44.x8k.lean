set_option maxHeartbeats 4000000 in
theorem c_X8_runScript {Y : gY} {l : Launch} {S : SS} (hw : wf (mw S 84)) (n s : Int) (hn : rI n) (hs : rL s) : gM Y l mX8_runScript S [.ref (yA Y 82), .int (iI n), .long (lI s)] (pS S (cd_run n s) (rsA s n n.toNat (mw S 84))) := by
  refine gM_of (by decide) (Nat.le_of_ble_eq_true rfl) ?_
  intro X hXl B E
  obtain ⟨⟨hn0, hn16⟩, ⟨hb0, hb1⟩, ⟨hm0, hm1⟩, ⟨hs0, hs1⟩, ⟨hc0, hc1⟩, hct, hkw, how⟩ := wfT hw
  obtain ⟨hna, hnb⟩ := hn
  have hs2 := hs
  obtain ⟨hsa, hsb⟩ := hs2
  show gW Y X S 0 [(0, .ref (yA Y 82)), (1, .int (iI n)), (2, .long (lI s))] []
  have lp86 : ∀ (fu : Nat) (j : Nat) (Sx : SS) (x4 x6 : Int) , x4 = (pw5 j) → x6 = (n - (j : Int)) → (j : Int) ≤ n → 1 ≤ n ∧ n ≤ 3 → 0 ≤ s → cd_run n s = 0 → rsA s n j (mw Sx 85) = rsA s n n.toNat (mw S 84) → f8 (us S 82 (uq (S 82) 0 0)) Sx → wf (mw Sx 85) → j + 1 < fu → gW Y X Sx 86 [(0, .ref (yA Y 82)), (1, .int (iI n)), (2, .long (lI s)), (4, .long (lI x4)), (6, .int (iI x6))] [] := by
    intro fu
    induction fu with
    | zero =>
      intro j Sx x4 x6 e_x4 e_x6 hj hn3 hsn hcd hA hf hwx hfu
      exact absurd hfu (Nat.not_lt_zero _)
    | succ fu ih =>
      intro j Sx x4 x6 e_x4 e_x6 hj hn3 hsn hcd hA hf hwx hfu
      subst e_x4
      subst e_x6
      have hpj := pw5_in j (by omega)
      have hpi := pw5_in (j - 1) (by omega)
      have hq0 : 0 ≤ s / pw5 (j - 1) := Int.ediv_nonneg hsn (by omega)
      have hq1 : s / pw5 (j - 1) ≤ s := Int.ediv_le_self _ hsn
      have hg : 0 ≤ grp s (j - 1) ∧ grp s (j - 1) < 100000 := by unfold grp; omega
      have hcb := cmB_in (grp s (j - 1) / 10000) (grp s (j - 1) % 10000) (mw Sx 85)
      refine g_iload (q := 88) B dX8_runScript_86 rfl 4 rfl ?_
      refine g_iload_n (q := 89) B dX8_runScript_88 rfl 1 rfl ?_
      refine g_icmp_ge (t := 139) (q := 92) B dX8_runScript_89 (by decide) rfl ⟨by omega, by omega⟩ ⟨by omega, by omega⟩ (fun cq89 => ?_) (fun cq89 => ?_)
      · refine g_iconst (q := 140) B dX8_runScript_139 rfl ?_
        refine g_iret B E dX8_runScript_140 ?_
        exact pS_0 hcd (by rw [← hA, show j = 0 by omega]; rfl) hf
      · refine g_lload (q := 94) B dX8_runScript_92 rfl 3 rfl ?_
        refine g_ldc2 (z := 100000) (q := 97) B dX8_runScript_94 rfl w1247 (by decide) ?_
        refine g_ldiv (q := 98) B dX8_runScript_97 rfl (by omega) (by omega) (by omega) (by omega) ?_
        refine g_eqT (st' := [.long (lI (pw5 (j - 1)))]) (congrArg (fun z => Value.long (lI z) :: []) (show (pw5 j) / 100000 = pw5 (j - 1) by exact pw5_d (by omega))) ?_
        refine g_lstore (q := 100) B dX8_runScript_98 rfl (by decide) (L' := [(4, .long (lI (pw5 (j - 1)))), (0, .ref (yA Y 82)), (1, .int (iI n)), (2, .long (lI s)), (6, .int (iI (n - (j : Int))))]) rfl ?_
        refine g_lload_n (q := 101) B dX8_runScript_100 rfl 3 rfl ?_
        refine g_lload (q := 103) B dX8_runScript_101 rfl 0 rfl ?_
        refine g_ldiv (q := 104) B dX8_runScript_103 rfl (by omega) (by omega) (by omega) (by omega) ?_
        refine g_ldc2 (z := 100000) (q := 107) B dX8_runScript_104 rfl w1247 (by decide) ?_
        refine g_lrem (q := 108) B dX8_runScript_107 rfl (by omega) (by omega) (by omega) (by omega) ?_
        refine g_l2i (q := 109) B dX8_runScript_108 rfl ?_
        refine g_eqT (st' := [.int (iI (grp s (j - 1)))]) (congrArg (fun z => Value.int (iI z) :: []) (show (s / (pw5 (j - 1))) % 100000 = grp s (j - 1) by rfl)) ?_
        refine g_istore (q := 111) B dX8_runScript_109 rfl (by decide) (L' := [(7, .int (iI (grp s (j - 1)))), (4, .long (lI (pw5 (j - 1)))), (0, .ref (yA Y 82)), (1, .int (iI n)), (2, .long (lI s)), (6, .int (iI (n - (j : Int))))]) rfl ?_
        refine g_aload_n (q := 112) B dX8_runScript_111 rfl 2 rfl ?_
        refine g_iload (q := 114) B dX8_runScript_112 rfl 0 rfl ?_
        refine g_sipush (q := 117) B dX8_runScript_114 rfl (by decide) ?_
        refine g_idiv (q := 118) B dX8_runScript_117 rfl (by omega) (by omega) (by omega) (by omega) ?_
        refine g_iload (q := 120) B dX8_runScript_118 rfl 0 rfl ?_
        refine g_sipush (q := 123) B dX8_runScript_120 rfl (by decide) ?_
        refine g_irem (q := 124) B dX8_runScript_123 rfl (by omega) (by omega) (by omega) (by omega) ?_
        refine g_callV (n := 82) (ty := tyX8) (q := 127) (As := [.int (iI ((grp s (j - 1)) / 10000)), .int (iI ((grp s (j - 1)) % 10000))]) (st := []) B dX8_runScript_124 rfl (c_X8_command (l := xL X) (S := Sx) hwx ((grp s (j - 1)) / 10000) ((grp s (j - 1)) % 10000) (by omega) (by omega)) eX8_command w1248 (by decide) rfl rfl cls6 rfl rfl (Nat.le_of_ble_eq_true rfl) (g_kV (fun Sy hSy => ?_))
        obtain ⟨hvSy, hfSy⟩ := hSy
        refine g_if_ne (t := 133) (q := 130) B dX8_runScript_127 (by decide) rfl ⟨by omega, by omega⟩ (fun cq127 => ?_) (fun cq127 => ?_)
        · refine g_iinc (n := 5) (q := 136) B dX8_runScript_133 rfl rfl (by decide) (L' := [(6, .int (iI (n - (j : Int) + 1))), (7, .int (iI (grp s (j - 1)))), (4, .long (lI (pw5 (j - 1)))), (0, .ref (yA Y 82)), (1, .int (iI n)), (2, .long (lI s))]) rfl ?_
          refine g_goto (q := 86) B dX8_runScript_136 (by decide) ?_
          refine g_sub [3, 4, 5, 2, 0] rfl ?_
          exact ih (j - 1) _ _ _ (by first | rfl | omega) (by first | rfl | omega) (by first | assumption | omega) (by first | assumption | omega) (by first | assumption | omega) (by first | assumption | omega) (by rw [hvSy, ← hA, rsA_s (j := j) (by omega), if_neg (show ¬ cmB (grp s (j - 1) / 10000) (grp s (j - 1) % 10000) (mw Sx 85) = 0 from cq127)]) (by exact f8_t hf hfSy) (by rw [hvSy]; exact wf_cmG hwx _ _) (by omega)
        · refine g_iload (q := 132) B dX8_runScript_130 rfl 5 rfl ?_
          refine g_iret B E dX8_runScript_132 ?_
          exact pS_0 hcd (by rw [← hA, rsA_s (by omega), if_pos (show cmB (grp s (j - 1) / 10000) (grp s (j - 1) % 10000) (mw Sx 85) = 0 from cq127)]) (f8_t hf hfSy)
  have lp6 : ∀ (fu : Nat) (k : Nat) (x4 x6 : Int) , x4 = (pw5 k) → x6 = ((k : Int)) → k ≤ 3 → (k = 0 ∨ (k : Int) ≤ n) → 4 - k < fu → gW Y X S 6 [(0, .ref (yA Y 82)), (1, .int (iI n)), (2, .long (lI s)), (4, .long (lI x4)), (6, .int (iI x6))] [] := by
    intro fu
    induction fu with
    | zero =>
      intro k x4 x6 e_x4 e_x6 hk hkn hfu
      exact absurd hfu (Nat.not_lt_zero _)
    | succ fu ih =>
      intro k x4 x6 e_x4 e_x6 hk hkn hfu
      subst e_x4
      subst e_x6
      have hpk := pw5_in k hk
      refine g_iload (q := 8) B dX8_runScript_6 rfl 4 rfl ?_
      refine g_iload_n (q := 9) B dX8_runScript_8 rfl 1 rfl ?_
      refine g_icmp_ge (t := 32) (q := 12) B dX8_runScript_9 (by decide) rfl ⟨by omega, by omega⟩ ⟨by omega, by omega⟩ (fun cq9 => ?_) (fun cq9 => ?_)
      · refine g_aload_n (q := 33) B dX8_runScript_32 rfl 0 rfl ?_
        refine g_iload_n (q := 34) B dX8_runScript_33 rfl 1 rfl ?_
        refine g_i2l (q := 35) B dX8_runScript_34 rfl ⟨by omega, by omega⟩ ?_
        refine g_lconst (z := 1) (q := 36) B dX8_runScript_35 rfl rfl ?_
        refine g_ldc2 (z := 3) (q := 39) B dX8_runScript_36 rfl w1028 (by decide) ?_
        refine g_callS (q := 42) (As := [.long (lI n), .long (lI 1), .long (lI 3)]) (st := [.ref (yA Y 82)]) B dX8_runScript_39 rfl (c_X8_in (l := xL X) (S := S) n 1 3 ⟨by omega, by omega⟩ ⟨by omega, by omega⟩ ⟨by omega, by omega⟩) eX8_in w1001 (by decide) rfl rfl (Nat.le_of_ble_eq_true rfl) (g_kE ?_)
        refine g_ifb_eq (t := 61) (q := 45) B dX8_runScript_42 (by decide) rfl (fun cq42 => ?_) (fun cq42 => ?_)
        · refine g_iconst (q := 62) B dX8_runScript_61 rfl ?_
          refine g_callV (n := 82) (ty := tyX8) (q := 65) (As := [.int (iI 1)]) (st := []) B dX8_runScript_62 rfl (c_X8_refused (l := xL X) (S := S) 1 ⟨by omega, by omega⟩) eX8_refused w1004 (by decide) rfl rfl cls6 rfl rfl (Nat.le_of_ble_eq_true rfl) (g_kE ?_)
          have hwz : wf (mw (us S 82 ((uq (S 82) 0 1))) 84) := by rw [us82_84]; exact hw
          have e84_0 : (us S 82 ((uq (S 82) 0 1))) 84 0 = S 84 0 := rfl
          have e84_r : runsF (mw (us S 82 ((uq (S 82) 0 1))) 84) = runsF (mw S 84) := rfl
          refine g_ifb_eq (t := 70) (q := 68) B dX8_runScript_65 (by decide) rfl (fun cq65 => ?_) (fun cq65 => ?_)
          · exact absurd cq65 (by decide)
          · refine g_iconst (q := 69) B dX8_runScript_68 rfl ?_
            refine g_iret B E dX8_runScript_69 ?_
            have ekn : 1 ≤ n → n ≤ 3 → n.toNat = k := fun a b => by omega
            exact pS_n 1 (by rw [cd_run, if_neg]; rintro ⟨⟨a, b⟩, c, d⟩; rw [ekn a b] at d; omega) (by decide)
        · refine g_lload_n (q := 46) B dX8_runScript_45 rfl 2 rfl ?_
          refine g_lconst (z := 0) (q := 47) B dX8_runScript_46 rfl rfl ?_
          refine g_lload (q := 49) B dX8_runScript_47 rfl 3 rfl ?_
          refine g_lconst (z := 1) (q := 50) B dX8_runScript_49 rfl rfl ?_
          refine g_lsub (q := 51) B dX8_runScript_50 rfl ?_
          refine g_callS (q := 54) (As := [.long (lI s), .long (lI 0), .long (lI ((pw5 k) - 1))]) (st := [.ref (yA Y 82)]) B dX8_runScript_51 rfl (c_X8_in (l := xL X) (S := S) s 0 ((pw5 k) - 1) ⟨by omega, by omega⟩ ⟨by omega, by omega⟩ ⟨by omega, by omega⟩) eX8_in w1001 (by decide) rfl rfl (Nat.le_of_ble_eq_true rfl) (g_kE ?_)
          refine g_ifb_eq (t := 61) (q := 57) B dX8_runScript_54 (by decide) rfl (fun cq54 => ?_) (fun cq54 => ?_)
          · refine g_iconst (q := 62) B dX8_runScript_61 rfl ?_
            refine g_callV (n := 82) (ty := tyX8) (q := 65) (As := [.int (iI 1)]) (st := []) B dX8_runScript_62 rfl (c_X8_refused (l := xL X) (S := S) 1 ⟨by omega, by omega⟩) eX8_refused w1004 (by decide) rfl rfl cls6 rfl rfl (Nat.le_of_ble_eq_true rfl) (g_kE ?_)
            have hwz : wf (mw (us S 82 ((uq (S 82) 0 1))) 84) := by rw [us82_84]; exact hw
            have e84_0 : (us S 82 ((uq (S 82) 0 1))) 84 0 = S 84 0 := rfl
            have e84_r : runsF (mw (us S 82 ((uq (S 82) 0 1))) 84) = runsF (mw S 84) := rfl
            refine g_ifb_eq (t := 70) (q := 68) B dX8_runScript_65 (by decide) rfl (fun cq65 => ?_) (fun cq65 => ?_)
            · exact absurd cq65 (by decide)
            · refine g_iconst (q := 69) B dX8_runScript_68 rfl ?_
              refine g_iret B E dX8_runScript_69 ?_
              have ekn : 1 ≤ n → n ≤ 3 → n.toNat = k := fun a b => by omega
              exact pS_n 1 (by rw [cd_run, if_neg]; rintro ⟨⟨a, b⟩, c, d⟩; rw [ekn a b] at d; omega) (by decide)
          · refine g_iconst (q := 58) B dX8_runScript_57 rfl ?_
            refine g_goto (q := 62) B dX8_runScript_58 (by decide) ?_
            refine g_callV (n := 82) (ty := tyX8) (q := 65) (As := [.int (iI 0)]) (st := []) B dX8_runScript_62 rfl (c_X8_refused (l := xL X) (S := S) 0 ⟨by omega, by omega⟩) eX8_refused w1004 (by decide) rfl rfl cls6 rfl rfl (Nat.le_of_ble_eq_true rfl) (g_kE ?_)
            have hwz : wf (mw (us S 82 ((uq (S 82) 0 0))) 84) := by rw [us82_84]; exact hw
            have e84_0 : (us S 82 ((uq (S 82) 0 0))) 84 0 = S 84 0 := rfl
            have e84_r : runsF (mw (us S 82 ((uq (S 82) 0 0))) 84) = runsF (mw S 84) := rfl
            refine g_ifb_eq (t := 70) (q := 68) B dX8_runScript_65 (by decide) rfl (fun cq65 => ?_) (fun cq65 => ?_)
            · refine g_aload_n (q := 71) B dX8_runScript_70 rfl 0 rfl ?_
              refine g_get (n := 82) (ty := tyX8) (q := 74) (v := .ref (yA Y 84)) B dX8_runScript_71 rfl (us_eq _ _ _) rfl cls6 3 (by decide) w954 rfl ?_
              refine g_iconst (q := 75) B dX8_runScript_74 rfl ?_
              refine g_aload_n (q := 76) B dX8_runScript_75 rfl 0 rfl ?_
              refine g_get (n := 82) (ty := tyX8) (q := 79) (v := .ref (yA Y 85)) B dX8_runScript_76 rfl (us_eq _ _ _) rfl cls6 4 (by decide) w955 rfl ?_
              refine g_iconst (q := 80) B dX8_runScript_79 rfl ?_
              refine g_callS (q := 83) (As := [.ref (yA Y 84), .int (iI 0), .ref (yA Y 85), .int (iI 0)]) (st := []) B dX8_runScript_80 rfl (c_X8_copyState (l := xL X) (S := (us S 82 ((uq (S 82) 0 0)))) (Or.inl ⟨rfl, rfl⟩) (Or.inr (Or.inl ⟨rfl, rfl⟩)) (by decide) 0 0 (by omega) (by omega) (by omega) (by omega)) eX8_copyState w1105 (by decide) rfl rfl (Nat.le_of_ble_eq_true rfl) (g_0E ?_)
              refine g_iconst (q := 84) B dX8_runScript_83 rfl ?_
              refine g_istore (q := 86) B dX8_runScript_84 rfl (by decide) (L' := [(6, .int (iI 0)), (0, .ref (yA Y 82)), (1, .int (iI n)), (2, .long (lI s)), (4, .long (lI (pw5 k)))]) rfl ?_
              refine g_sub [1, 2, 3, 4, 0] rfl ?_
              have ekn : n.toNat = k := by omega
              exact lp86 _ k _ _ _ (by first | rfl | omega) (by first | rfl | omega) (by first | assumption | omega) (by first | assumption | omega) (by first | assumption | omega) (by rw [cd_run, if_pos]; rw [ekn]; omega) (by rw [ekn]; exact congrArg _ (mw_cp (us S 82 (uq (S 82) 0 0)))) (by exact f8_m fm_us) (by rw [mw_cp]; exact hwz) (Nat.lt_succ_self _)
            · exact absurd cq65 (by decide)
      · refine g_iload (q := 14) B dX8_runScript_12 rfl 4 rfl ?_
        refine g_iconst (q := 15) B dX8_runScript_14 rfl ?_
        refine g_icmp_ge (t := 32) (q := 18) B dX8_runScript_15 (by decide) rfl ⟨by omega, by omega⟩ ⟨by omega, by omega⟩ (fun cq15 => ?_) (fun cq15 => ?_)
        · refine g_aload_n (q := 33) B dX8_runScript_32 rfl 0 rfl ?_
          refine g_iload_n (q := 34) B dX8_runScript_33 rfl 1 rfl ?_
          refine g_i2l (q := 35) B dX8_runScript_34 rfl ⟨by omega, by omega⟩ ?_
          refine g_lconst (z := 1) (q := 36) B dX8_runScript_35 rfl rfl ?_
          refine g_ldc2 (z := 3) (q := 39) B dX8_runScript_36 rfl w1028 (by decide) ?_
          refine g_callS (q := 42) (As := [.long (lI n), .long (lI 1), .long (lI 3)]) (st := [.ref (yA Y 82)]) B dX8_runScript_39 rfl (c_X8_in (l := xL X) (S := S) n 1 3 ⟨by omega, by omega⟩ ⟨by omega, by omega⟩ ⟨by omega, by omega⟩) eX8_in w1001 (by decide) rfl rfl (Nat.le_of_ble_eq_true rfl) (g_kE ?_)
          refine g_ifb_eq (t := 61) (q := 45) B dX8_runScript_42 (by decide) rfl (fun cq42 => ?_) (fun cq42 => ?_)
          · refine g_iconst (q := 62) B dX8_runScript_61 rfl ?_
            refine g_callV (n := 82) (ty := tyX8) (q := 65) (As := [.int (iI 1)]) (st := []) B dX8_runScript_62 rfl (c_X8_refused (l := xL X) (S := S) 1 ⟨by omega, by omega⟩) eX8_refused w1004 (by decide) rfl rfl cls6 rfl rfl (Nat.le_of_ble_eq_true rfl) (g_kE ?_)
            have hwz : wf (mw (us S 82 ((uq (S 82) 0 1))) 84) := by rw [us82_84]; exact hw
            have e84_0 : (us S 82 ((uq (S 82) 0 1))) 84 0 = S 84 0 := rfl
            have e84_r : runsF (mw (us S 82 ((uq (S 82) 0 1))) 84) = runsF (mw S 84) := rfl
            refine g_ifb_eq (t := 70) (q := 68) B dX8_runScript_65 (by decide) rfl (fun cq65 => ?_) (fun cq65 => ?_)
            · exact absurd cq65 (by decide)
            · refine g_iconst (q := 69) B dX8_runScript_68 rfl ?_
              refine g_iret B E dX8_runScript_69 ?_
              have ekn : 1 ≤ n → n ≤ 3 → n.toNat = k := fun a b => by omega
              exact pS_n 1 (by rw [cd_run, if_neg]; rintro ⟨⟨a, b⟩, c, d⟩; rw [ekn a b] at d; omega) (by decide)
          · refine g_lload_n (q := 46) B dX8_runScript_45 rfl 2 rfl ?_
            refine g_lconst (z := 0) (q := 47) B dX8_runScript_46 rfl rfl ?_
            refine g_lload (q := 49) B dX8_runScript_47 rfl 3 rfl ?_
            refine g_lconst (z := 1) (q := 50) B dX8_runScript_49 rfl rfl ?_
            refine g_lsub (q := 51) B dX8_runScript_50 rfl ?_
            refine g_callS (q := 54) (As := [.long (lI s), .long (lI 0), .long (lI ((pw5 k) - 1))]) (st := [.ref (yA Y 82)]) B dX8_runScript_51 rfl (c_X8_in (l := xL X) (S := S) s 0 ((pw5 k) - 1) ⟨by omega, by omega⟩ ⟨by omega, by omega⟩ ⟨by omega, by omega⟩) eX8_in w1001 (by decide) rfl rfl (Nat.le_of_ble_eq_true rfl) (g_kE ?_)
            refine g_ifb_eq (t := 61) (q := 57) B dX8_runScript_54 (by decide) rfl (fun cq54 => ?_) (fun cq54 => ?_)
            · refine g_iconst (q := 62) B dX8_runScript_61 rfl ?_
              refine g_callV (n := 82) (ty := tyX8) (q := 65) (As := [.int (iI 1)]) (st := []) B dX8_runScript_62 rfl (c_X8_refused (l := xL X) (S := S) 1 ⟨by omega, by omega⟩) eX8_refused w1004 (by decide) rfl rfl cls6 rfl rfl (Nat.le_of_ble_eq_true rfl) (g_kE ?_)
              have hwz : wf (mw (us S 82 ((uq (S 82) 0 1))) 84) := by rw [us82_84]; exact hw
              have e84_0 : (us S 82 ((uq (S 82) 0 1))) 84 0 = S 84 0 := rfl
              have e84_r : runsF (mw (us S 82 ((uq (S 82) 0 1))) 84) = runsF (mw S 84) := rfl
              refine g_ifb_eq (t := 70) (q := 68) B dX8_runScript_65 (by decide) rfl (fun cq65 => ?_) (fun cq65 => ?_)
              · exact absurd cq65 (by decide)
              · refine g_iconst (q := 69) B dX8_runScript_68 rfl ?_
                refine g_iret B E dX8_runScript_69 ?_
                have ekn : 1 ≤ n → n ≤ 3 → n.toNat = k := fun a b => by omega
                exact pS_n 1 (by rw [cd_run, if_neg]; rintro ⟨⟨a, b⟩, c, d⟩; rw [ekn a b] at d; omega) (by decide)
            · refine g_iconst (q := 58) B dX8_runScript_57 rfl ?_
              refine g_goto (q := 62) B dX8_runScript_58 (by decide) ?_
              refine g_callV (n := 82) (ty := tyX8) (q := 65) (As := [.int (iI 0)]) (st := []) B dX8_runScript_62 rfl (c_X8_refused (l := xL X) (S := S) 0 ⟨by omega, by omega⟩) eX8_refused w1004 (by decide) rfl rfl cls6 rfl rfl (Nat.le_of_ble_eq_true rfl) (g_kE ?_)
              have hwz : wf (mw (us S 82 ((uq (S 82) 0 0))) 84) := by rw [us82_84]; exact hw
              have e84_0 : (us S 82 ((uq (S 82) 0 0))) 84 0 = S 84 0 := rfl
              have e84_r : runsF (mw (us S 82 ((uq (S 82) 0 0))) 84) = runsF (mw S 84) := rfl
              refine g_ifb_eq (t := 70) (q := 68) B dX8_runScript_65 (by decide) rfl (fun cq65 => ?_) (fun cq65 => ?_)
              · refine g_aload_n (q := 71) B dX8_runScript_70 rfl 0 rfl ?_
                refine g_get (n := 82) (ty := tyX8) (q := 74) (v := .ref (yA Y 84)) B dX8_runScript_71 rfl (us_eq _ _ _) rfl cls6 3 (by decide) w954 rfl ?_
                refine g_iconst (q := 75) B dX8_runScript_74 rfl ?_
                refine g_aload_n (q := 76) B dX8_runScript_75 rfl 0 rfl ?_
                refine g_get (n := 82) (ty := tyX8) (q := 79) (v := .ref (yA Y 85)) B dX8_runScript_76 rfl (us_eq _ _ _) rfl cls6 4 (by decide) w955 rfl ?_
                refine g_iconst (q := 80) B dX8_runScript_79 rfl ?_
                refine g_callS (q := 83) (As := [.ref (yA Y 84), .int (iI 0), .ref (yA Y 85), .int (iI 0)]) (st := []) B dX8_runScript_80 rfl (c_X8_copyState (l := xL X) (S := (us S 82 ((uq (S 82) 0 0)))) (Or.inl ⟨rfl, rfl⟩) (Or.inr (Or.inl ⟨rfl, rfl⟩)) (by decide) 0 0 (by omega) (by omega) (by omega) (by omega)) eX8_copyState w1105 (by decide) rfl rfl (Nat.le_of_ble_eq_true rfl) (g_0E ?_)
                refine g_iconst (q := 84) B dX8_runScript_83 rfl ?_
                refine g_istore (q := 86) B dX8_runScript_84 rfl (by decide) (L' := [(6, .int (iI 0)), (0, .ref (yA Y 82)), (1, .int (iI n)), (2, .long (lI s)), (4, .long (lI (pw5 k)))]) rfl ?_
                refine g_sub [1, 2, 3, 4, 0] rfl ?_
                have ekn : n.toNat = k := by omega
                exact lp86 _ k _ _ _ (by first | rfl | omega) (by first | rfl | omega) (by first | assumption | omega) (by first | assumption | omega) (by first | assumption | omega) (by rw [cd_run, if_pos]; rw [ekn]; omega) (by rw [ekn]; exact congrArg _ (mw_cp (us S 82 (uq (S 82) 0 0)))) (by exact f8_m fm_us) (by rw [mw_cp]; exact hwz) (Nat.lt_succ_self _)
              · exact absurd cq65 (by decide)
        · refine g_lload (q := 20) B dX8_runScript_18 rfl 3 rfl ?_
          refine g_ldc2 (z := 100000) (q := 23) B dX8_runScript_20 rfl w1247 (by decide) ?_
          refine g_lmul (q := 24) B dX8_runScript_23 rfl ?_
          refine g_lstore (q := 26) B dX8_runScript_24 rfl (by decide) (L' := [(4, .long (lI ((pw5 k) * 100000))), (0, .ref (yA Y 82)), (1, .int (iI n)), (2, .long (lI s)), (6, .int (iI ((k : Int))))]) rfl ?_
          refine g_iinc (n := 4) (q := 29) B dX8_runScript_26 rfl rfl (by decide) (L' := [(6, .int (iI ((k : Int) + 1))), (4, .long (lI ((pw5 k) * 100000))), (0, .ref (yA Y 82)), (1, .int (iI n)), (2, .long (lI s))]) rfl ?_
          refine g_goto (q := 6) B dX8_runScript_29 (by decide) ?_
          refine g_sub [2, 3, 4, 1, 0] rfl ?_
          exact ih (k + 1) _ _ (by first | rfl | omega) (by first | rfl | omega) (by first | assumption | omega) (by first | assumption | omega) (by omega)
  refine g_lconst (z := 1) (q := 1) B dX8_runScript_0 rfl rfl ?_
  refine g_lstore (q := 3) B dX8_runScript_1 rfl (by decide) (L' := [(4, .long (lI 1)), (0, .ref (yA Y 82)), (1, .int (iI n)), (2, .long (lI s))]) rfl ?_
  refine g_iconst (q := 4) B dX8_runScript_3 rfl ?_
  refine g_istore (q := 6) B dX8_runScript_4 rfl (by decide) (L' := [(6, .int (iI 0)), (4, .long (lI 1)), (0, .ref (yA Y 82)), (1, .int (iI n)), (2, .long (lI s))]) rfl ?_
  refine g_sub [2, 3, 4, 1, 0] rfl ?_
  exact lp6 _ 0 _ _ (by first | rfl | omega) (by first | rfl | omega) (by first | assumption | omega) (by first | assumption | omega) (Nat.lt_succ_self _)
