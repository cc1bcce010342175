set_option maxHeartbeats 4000000 in
theorem c_X8_simulate {Y : gY} {l : Launch} {S : SS} (hw : wf (mw S 84)) (z m : Int) (hm : rI m) : gM Y l mX8_simulate S [.ref (yA Y 82), .long (lI z), .int (iI m)] (pS S (cd_sim m) (siA (siG (mw S 84) z m.toNat))) := by
  refine gM_of (by decide) (Nat.le_of_ble_eq_true rfl) ?_
  intro X hXl B E
  obtain ⟨⟨hn0, hn16⟩, ⟨hb0, hb1⟩, ⟨hm0, hm1⟩, ⟨hs0, hs1⟩, ⟨hc0, hc1⟩, hct, hkw, how⟩ := wfT hw
  obtain ⟨hma, hmb⟩ := hm
  show gW Y X S 0 [(0, .ref (yA Y 82)), (1, .long (lI z)), (3, .int (iI m))] []
  have lp45 : ∀ (fu : Nat) (k : Nat) (Sx : SS) (x4 x6 : Int) , x4 = (siX z k) → x6 = ((k : Int)) → (k : Int) ≤ m → 1 ≤ m ∧ m ≤ 60 → mw Sx 85 = siG (mw S 84) z k → fm (us S 82 (uq (S 82) 0 0)) Sx 85 → 61 - k < fu → gW Y X Sx 45 [(0, .ref (yA Y 82)), (1, .long (lI z)), (3, .int (iI m)), (4, .long (lI x4)), (6, .int (iI x6))] [] := by
    intro fu
    induction fu with
    | zero =>
      intro k Sx x4 x6 e_x4 e_x6 hk hm60 hv hf hfu
      exact absurd hfu (Nat.not_lt_zero _)
    | succ fu ih =>
      intro k Sx x4 x6 e_x4 e_x6 hk hm60 hv hf hfu
      subst e_x4
      subst e_x6
      have hwz : wf (mw Sx 85) := by rw [hv]; exact wf_siG hw z k
      have hrr := runsF_in (mw Sx 85)
      have hgr := gapF_in hwz
      have hrd := rnd_in (siX z k * 6364136223846793005 + 1442695040888963407)
      have hi0 := hwz.1
      rw [mw_0] at hi0
      refine g_iload (q := 47) B dX8_simulate_45 rfl 4 rfl ?_
      refine g_iload_n (q := 48) B dX8_simulate_47 rfl 2 rfl ?_
      refine g_icmp_ge (t := 133) (q := 51) B dX8_simulate_48 (by decide) rfl ⟨by omega, by omega⟩ ⟨by omega, by omega⟩ (fun cq48 => ?_) (fun cq48 => ?_)
      · refine g_aload_n (q := 134) B dX8_simulate_133 rfl 0 rfl ?_
        refine g_get (n := 82) (ty := tyX8) (q := 137) (v := .ref (yA Y 85)) B dX8_simulate_134 rfl rfl rfl cls6 4 (by decide) w955 rfl ?_
        refine g_callS (q := 140) (As := [.ref (yA Y 85)]) (st := []) B dX8_simulate_137 rfl (c_X8_gap (l := xL X) (S := Sx) (Or.inr rfl) hwz  ) eX8_gap w1071 (by decide) rfl rfl (Nat.le_of_ble_eq_true rfl) (g_kE ?_)
        have := gapF_in hwz
        refine g_istore (q := 142) B dX8_simulate_140 rfl (by decide) (L' := [(6, .int (iI (gapF (mw Sx 85)))), (0, .ref (yA Y 82)), (1, .long (lI z)), (3, .int (iI m)), (4, .long (lI (siX z k)))]) rfl ?_
        refine g_sipush (q := 145) B dX8_simulate_142 rfl (by decide) ?_
        refine g_aload_n (q := 146) B dX8_simulate_145 rfl 1 rfl ?_
        refine g_get (n := 82) (ty := tyX8) (q := 149) (v := .ref (yA Y 85)) B dX8_simulate_146 rfl rfl rfl cls6 4 (by decide) w955 rfl ?_
        refine g_iconst (q := 150) B dX8_simulate_149 rfl ?_
        refine g_iald (n := 85) (q := 151) B dX8_simulate_150 rfl rfl rfl (by decide) (by omega) (by omega) ?_
        refine g_imul (q := 152) B dX8_simulate_151 rfl ?_
        refine g_bipush (q := 154) B dX8_simulate_152 rfl (by decide) ?_
        refine g_aload_n (q := 155) B dX8_simulate_154 rfl 1 rfl ?_
        refine g_get (n := 82) (ty := tyX8) (q := 158) (v := .ref (yA Y 85)) B dX8_simulate_155 rfl rfl rfl cls6 4 (by decide) w955 rfl ?_
        refine g_callS (q := 161) (As := [.ref (yA Y 85)]) (st := [.int (iI 100), .int (iI (10000 * (Sx 85 0)))]) B dX8_simulate_158 rfl (c_X8_runs (l := xL X) (S := Sx) (Or.inr rfl) (wf.b hwz)  ) eX8_runs w1059 (by decide) rfl rfl (Nat.le_of_ble_eq_true rfl) (g_kE ?_)
        have := runsF_in (mw Sx 85)
        refine g_imul (q := 162) B dX8_simulate_161 rfl ?_
        refine g_iadd (q := 163) B dX8_simulate_162 rfl ?_
        refine g_iload (q := 165) B dX8_simulate_163 rfl 0 rfl ?_
        refine g_bipush (q := 167) B dX8_simulate_165 rfl (by decide) ?_
        refine g_icmp_le (t := 175) (q := 170) B dX8_simulate_167 (by decide) rfl ⟨by omega, by omega⟩ ⟨by omega, by omega⟩ (fun cq167 => ?_) (fun cq167 => ?_)
        · refine g_iload (q := 177) B dX8_simulate_175 rfl 0 rfl ?_
          refine g_iadd (q := 178) B dX8_simulate_177 rfl ?_
          refine g_iret B E dX8_simulate_178 ?_
          have e : siA (mw Sx 85) = siA (siG (mw S 84) z m.toNat) := by rw [hv, show m.toNat = k by omega]
          exact pS_0 (by rw [cd_sim]; (repeat' split) <;> omega) (by rw [← e]; unfold siA; rw [mw_0]; split <;> omega) (fz_m hf)
        · refine g_bipush (q := 172) B dX8_simulate_170 rfl (by decide) ?_
          refine g_goto (q := 177) B dX8_simulate_172 (by decide) ?_
          refine g_iadd (q := 178) B dX8_simulate_177 rfl ?_
          refine g_iret B E dX8_simulate_178 ?_
          have e : siA (mw Sx 85) = siA (siG (mw S 84) z m.toNat) := by rw [hv, show m.toNat = k by omega]
          exact pS_0 (by rw [cd_sim]; (repeat' split) <;> omega) (by rw [← e]; unfold siA; rw [mw_0]; split <;> omega) (fz_m hf)
      · refine g_lload (q := 53) B dX8_simulate_51 rfl 3 rfl ?_
        refine g_ldc2 (z := 6364136223846793005) (q := 56) B dX8_simulate_53 rfl w1261 (by decide) ?_
        refine g_lmul (q := 57) B dX8_simulate_56 rfl ?_
        refine g_ldc2 (z := 1442695040888963407) (q := 60) B dX8_simulate_57 rfl w1262 (by decide) ?_
        refine g_ladd (q := 61) B dX8_simulate_60 rfl ?_
        refine g_lstore (q := 63) B dX8_simulate_61 rfl (by decide) (L' := [(4, .long (lI (((siX z k) * 6364136223846793005) + 1442695040888963407))), (0, .ref (yA Y 82)), (1, .long (lI z)), (3, .int (iI m)), (6, .int (iI ((k : Int))))]) rfl ?_
        refine g_lload (q := 65) B dX8_simulate_63 rfl 0 rfl ?_
        refine g_bipush (q := 67) B dX8_simulate_65 rfl (by decide) ?_
        refine g_lushr (v := (lI (rnd (((siX z k) * 6364136223846793005) + 1442695040888963407)))) (q := 68) B dX8_simulate_67 rfl (lI_rnd _) ?_
        refine g_l2i (q := 69) B dX8_simulate_68 rfl ?_
        refine g_istore (q := 71) B dX8_simulate_69 rfl (by decide) (L' := [(7, .int (iI (rnd (((siX z k) * 6364136223846793005) + 1442695040888963407)))), (4, .long (lI (((siX z k) * 6364136223846793005) + 1442695040888963407))), (0, .ref (yA Y 82)), (1, .long (lI z)), (3, .int (iI m)), (6, .int (iI ((k : Int))))]) rfl ?_
        refine g_iload (q := 73) B dX8_simulate_71 rfl 0 rfl ?_
        refine g_bipush (q := 75) B dX8_simulate_73 rfl (by decide) ?_
        refine g_irem (q := 76) B dX8_simulate_75 rfl (by omega) (by omega) (by omega) (by omega) ?_
        refine g_iconst (q := 77) B dX8_simulate_76 rfl ?_
        refine g_icmp_lt (t := 90) (q := 80) B dX8_simulate_77 (by decide) rfl ⟨by omega, by omega⟩ ⟨by omega, by omega⟩ (fun cq77 => ?_) (fun cq77 => ?_)
        · refine g_aload_n (q := 91) B dX8_simulate_90 rfl 2 rfl ?_
          refine g_get (n := 82) (ty := tyX8) (q := 94) (v := .ref (yA Y 85)) B dX8_simulate_91 rfl rfl rfl cls6 4 (by decide) w955 rfl ?_
          refine g_iload (q := 96) B dX8_simulate_94 rfl 0 rfl ?_
          refine g_bipush (q := 98) B dX8_simulate_96 rfl (by decide) ?_
          refine g_irem (q := 99) B dX8_simulate_98 rfl (by omega) (by omega) (by omega) (by omega) ?_
          refine g_iload (q := 101) B dX8_simulate_99 rfl 0 rfl ?_
          refine g_bipush (q := 103) B dX8_simulate_101 rfl (by decide) ?_
          refine g_idiv (q := 104) B dX8_simulate_103 rfl (by omega) (by omega) (by omega) (by omega) ?_
          refine g_callS (q := 107) (As := [.ref (yA Y 85), .int (iI ((rnd (((siX z k) * 6364136223846793005) + 1442695040888963407)) % 16)), .int (iI ((rnd (((siX z k) * 6364136223846793005) + 1442695040888963407)) / 16))]) (st := []) B dX8_simulate_104 rfl (c_X8_turnRing (l := xL X) (S := Sx) (Or.inr rfl) hwz ((rnd (((siX z k) * 6364136223846793005) + 1442695040888963407)) % 16) ((rnd (((siX z k) * 6364136223846793005) + 1442695040888963407)) / 16) (by omega) (by omega)) eX8_turnRing w1263 (by decide) rfl rfl (Nat.le_of_ble_eq_true rfl) (g_k0 (fun Sr hSr => ?_))
          obtain ⟨hvSr, hfSr⟩ := hSr
          refine g_goto (q := 127) B dX8_simulate_107 (by decide) ?_
          refine g_iinc (n := 5) (q := 130) B dX8_simulate_127 rfl rfl (by decide) (L' := [(6, .int (iI ((k : Int) + 1))), (7, .int (iI (rnd (((siX z k) * 6364136223846793005) + 1442695040888963407)))), (4, .long (lI (((siX z k) * 6364136223846793005) + 1442695040888963407))), (0, .ref (yA Y 82)), (1, .long (lI z)), (3, .int (iI m))]) rfl ?_
          refine g_goto (q := 45) B dX8_simulate_130 (by decide) ?_
          refine g_sub [3, 4, 5, 2, 0] rfl ?_
          have HT : rnd (siX z (k + 1)) % 16 < 4 ∨ 13 < rnd (siX z (k + 1)) % 16 := by
            rw [siX]; omega
          exact ih (k + 1) _ _ _ (by first | rfl | omega) (by first | rfl | omega) (by first | assumption | omega) (by first | assumption | omega) (by rw [hvSr, hv]; rw [siG, siT, if_pos (show rnd (siX z (k + 1)) % 16 < 4 ∨ 13 < rnd (siX z (k + 1)) % 16 from HT)]; rfl) (by exact hf.tr hfSr) (by omega)
        · refine g_iload (q := 82) B dX8_simulate_80 rfl 0 rfl ?_
          refine g_bipush (q := 84) B dX8_simulate_82 rfl (by decide) ?_
          refine g_irem (q := 85) B dX8_simulate_84 rfl (by omega) (by omega) (by omega) (by omega) ?_
          refine g_bipush (q := 87) B dX8_simulate_85 rfl (by decide) ?_
          refine g_icmp_le (t := 110) (q := 90) B dX8_simulate_87 (by decide) rfl ⟨by omega, by omega⟩ ⟨by omega, by omega⟩ (fun cq87 => ?_) (fun cq87 => ?_)
          · refine g_aload_n (q := 111) B dX8_simulate_110 rfl 2 rfl ?_
            refine g_get (n := 82) (ty := tyX8) (q := 114) (v := .ref (yA Y 85)) B dX8_simulate_111 rfl rfl rfl cls6 4 (by decide) w955 rfl ?_
            refine g_iload (q := 116) B dX8_simulate_114 rfl 0 rfl ?_
            refine g_bipush (q := 118) B dX8_simulate_116 rfl (by decide) ?_
            refine g_irem (q := 119) B dX8_simulate_118 rfl (by omega) (by omega) (by omega) (by omega) ?_
            refine g_iload (q := 121) B dX8_simulate_119 rfl 0 rfl ?_
            refine g_bipush (q := 123) B dX8_simulate_121 rfl (by decide) ?_
            refine g_idiv (q := 124) B dX8_simulate_123 rfl (by omega) (by omega) (by omega) (by omega) ?_
            refine g_callS (q := 127) (As := [.ref (yA Y 85), .int (iI ((rnd (((siX z k) * 6364136223846793005) + 1442695040888963407)) % 16)), .int (iI ((rnd (((siX z k) * 6364136223846793005) + 1442695040888963407)) / 16))]) (st := []) B dX8_simulate_124 rfl (c_X8_turnRuns (l := xL X) (S := Sx) (Or.inr rfl) hwz ((rnd (((siX z k) * 6364136223846793005) + 1442695040888963407)) % 16) ((rnd (((siX z k) * 6364136223846793005) + 1442695040888963407)) / 16) (by omega) (by omega)) eX8_turnRuns w1266 (by decide) rfl rfl (Nat.le_of_ble_eq_true rfl) (g_k0 (fun Su hSu => ?_))
            obtain ⟨hvSu, hfSu⟩ := hSu
            refine g_iinc (n := 5) (q := 130) B dX8_simulate_127 rfl rfl (by decide) (L' := [(6, .int (iI ((k : Int) + 1))), (7, .int (iI (rnd (((siX z k) * 6364136223846793005) + 1442695040888963407)))), (4, .long (lI (((siX z k) * 6364136223846793005) + 1442695040888963407))), (0, .ref (yA Y 82)), (1, .long (lI z)), (3, .int (iI m))]) rfl ?_
            refine g_goto (q := 45) B dX8_simulate_130 (by decide) ?_
            refine g_sub [3, 4, 5, 2, 0] rfl ?_
            have HT : ¬ (rnd (siX z (k + 1)) % 16 < 4 ∨ 13 < rnd (siX z (k + 1)) % 16) := by
              rw [siX]; omega
            exact ih (k + 1) _ _ _ (by first | rfl | omega) (by first | rfl | omega) (by first | assumption | omega) (by first | assumption | omega) (by rw [hvSu, hv]; rw [siG, siT, if_neg (show ¬ (rnd (siX z (k + 1)) % 16 < 4 ∨ 13 < rnd (siX z (k + 1)) % 16) from HT)]; rfl) (by exact hf.tr hfSu) (by omega)
          · refine g_aload_n (q := 91) B dX8_simulate_90 rfl 2 rfl ?_
            refine g_get (n := 82) (ty := tyX8) (q := 94) (v := .ref (yA Y 85)) B dX8_simulate_91 rfl rfl rfl cls6 4 (by decide) w955 rfl ?_
            refine g_iload (q := 96) B dX8_simulate_94 rfl 0 rfl ?_
            refine g_bipush (q := 98) B dX8_simulate_96 rfl (by decide) ?_
            refine g_irem (q := 99) B dX8_simulate_98 rfl (by omega) (by omega) (by omega) (by omega) ?_
            refine g_iload (q := 101) B dX8_simulate_99 rfl 0 rfl ?_
            refine g_bipush (q := 103) B dX8_simulate_101 rfl (by decide) ?_
            refine g_idiv (q := 104) B dX8_simulate_103 rfl (by omega) (by omega) (by omega) (by omega) ?_
            refine g_callS (q := 107) (As := [.ref (yA Y 85), .int (iI ((rnd (((siX z k) * 6364136223846793005) + 1442695040888963407)) % 16)), .int (iI ((rnd (((siX z k) * 6364136223846793005) + 1442695040888963407)) / 16))]) (st := []) B dX8_simulate_104 rfl (c_X8_turnRing (l := xL X) (S := Sx) (Or.inr rfl) hwz ((rnd (((siX z k) * 6364136223846793005) + 1442695040888963407)) % 16) ((rnd (((siX z k) * 6364136223846793005) + 1442695040888963407)) / 16) (by omega) (by omega)) eX8_turnRing w1263 (by decide) rfl rfl (Nat.le_of_ble_eq_true rfl) (g_k0 (fun Sr hSr => ?_))
            obtain ⟨hvSr, hfSr⟩ := hSr
            refine g_goto (q := 127) B dX8_simulate_107 (by decide) ?_
            refine g_iinc (n := 5) (q := 130) B dX8_simulate_127 rfl rfl (by decide) (L' := [(6, .int (iI ((k : Int) + 1))), (7, .int (iI (rnd (((siX z k) * 6364136223846793005) + 1442695040888963407)))), (4, .long (lI (((siX z k) * 6364136223846793005) + 1442695040888963407))), (0, .ref (yA Y 82)), (1, .long (lI z)), (3, .int (iI m))]) rfl ?_
            refine g_goto (q := 45) B dX8_simulate_130 (by decide) ?_
            refine g_sub [3, 4, 5, 2, 0] rfl ?_
            have HT : rnd (siX z (k + 1)) % 16 < 4 ∨ 13 < rnd (siX z (k + 1)) % 16 := by
              rw [siX]; omega
            exact ih (k + 1) _ _ _ (by first | rfl | omega) (by first | rfl | omega) (by first | assumption | omega) (by first | assumption | omega) (by rw [hvSr, hv]; rw [siG, siT, if_pos (show rnd (siX z (k + 1)) % 16 < 4 ∨ 13 < rnd (siX z (k + 1)) % 16 from HT)]; rfl) (by exact hf.tr hfSr) (by omega)
  refine g_aload_n (q := 1) B dX8_simulate_0 rfl 0 rfl ?_
  refine g_iload_n (q := 2) B dX8_simulate_1 rfl 2 rfl ?_
  refine g_i2l (q := 3) B dX8_simulate_2 rfl ⟨by omega, by omega⟩ ?_
  refine g_lconst (z := 1) (q := 4) B dX8_simulate_3 rfl rfl ?_
  refine g_ldc2 (z := 60) (q := 7) B dX8_simulate_4 rfl w1260 (by decide) ?_
  refine g_callS (q := 10) (As := [.long (lI m), .long (lI 1), .long (lI 60)]) (st := [.ref (yA Y 82)]) B dX8_simulate_7 rfl (c_X8_in (l := xL X) (S := S) m 1 60 ⟨by omega, by omega⟩ ⟨by omega, by omega⟩ ⟨by omega, by omega⟩) eX8_in w1001 (by decide) rfl rfl (Nat.le_of_ble_eq_true rfl) (g_kE ?_)
  refine g_ifb_eq (t := 17) (q := 13) B dX8_simulate_10 (by decide) rfl (fun cq10 => ?_) (fun cq10 => ?_)
  · refine g_iconst (q := 18) B dX8_simulate_17 rfl ?_
    refine g_callV (n := 82) (ty := tyX8) (q := 21) (As := [.int (iI 1)]) (st := []) B dX8_simulate_18 rfl (c_X8_refused (l := xL X) (S := S) 1 ⟨by omega, by omega⟩) eX8_refused w1004 (by decide) rfl rfl cls6 rfl rfl (Nat.le_of_ble_eq_true rfl) (g_kE ?_)
    have hwz : wf (mw (us S 82 ((uq (S 82) 0 1))) 84) := by rw [us82_84]; exact hw
    have e84_0 : (us S 82 ((uq (S 82) 0 1))) 84 0 = S 84 0 := rfl
    have e84_r : runsF (mw (us S 82 ((uq (S 82) 0 1))) 84) = runsF (mw S 84) := rfl
    refine g_ifb_eq (t := 26) (q := 24) B dX8_simulate_21 (by decide) rfl (fun cq21 => ?_) (fun cq21 => ?_)
    · exact absurd cq21 (by decide)
    · refine g_iconst (q := 25) B dX8_simulate_24 rfl ?_
      refine g_iret B E dX8_simulate_25 ?_
      exact pS_n 1 (by rw [cd_sim]; (repeat' split) <;> omega) (by decide)
  · refine g_iconst (q := 14) B dX8_simulate_13 rfl ?_
    refine g_goto (q := 18) B dX8_simulate_14 (by decide) ?_
    refine g_callV (n := 82) (ty := tyX8) (q := 21) (As := [.int (iI 0)]) (st := []) B dX8_simulate_18 rfl (c_X8_refused (l := xL X) (S := S) 0 ⟨by omega, by omega⟩) eX8_refused w1004 (by decide) rfl rfl cls6 rfl rfl (Nat.le_of_ble_eq_true rfl) (g_kE ?_)
    have hwz : wf (mw (us S 82 ((uq (S 82) 0 0))) 84) := by rw [us82_84]; exact hw
    have e84_0 : (us S 82 ((uq (S 82) 0 0))) 84 0 = S 84 0 := rfl
    have e84_r : runsF (mw (us S 82 ((uq (S 82) 0 0))) 84) = runsF (mw S 84) := rfl
    refine g_ifb_eq (t := 26) (q := 24) B dX8_simulate_21 (by decide) rfl (fun cq21 => ?_) (fun cq21 => ?_)
    · refine g_aload_n (q := 27) B dX8_simulate_26 rfl 0 rfl ?_
      refine g_get (n := 82) (ty := tyX8) (q := 30) (v := .ref (yA Y 84)) B dX8_simulate_27 rfl (us_eq _ _ _) rfl cls6 3 (by decide) w954 rfl ?_
      refine g_iconst (q := 31) B dX8_simulate_30 rfl ?_
      refine g_aload_n (q := 32) B dX8_simulate_31 rfl 0 rfl ?_
      refine g_get (n := 82) (ty := tyX8) (q := 35) (v := .ref (yA Y 85)) B dX8_simulate_32 rfl (us_eq _ _ _) rfl cls6 4 (by decide) w955 rfl ?_
      refine g_iconst (q := 36) B dX8_simulate_35 rfl ?_
      refine g_callS (q := 39) (As := [.ref (yA Y 84), .int (iI 0), .ref (yA Y 85), .int (iI 0)]) (st := []) B dX8_simulate_36 rfl (c_X8_copyState (l := xL X) (S := (us S 82 ((uq (S 82) 0 0)))) (Or.inl ⟨rfl, rfl⟩) (Or.inr (Or.inl ⟨rfl, rfl⟩)) (by decide) 0 0 (by omega) (by omega) (by omega) (by omega)) eX8_copyState w1105 (by decide) rfl rfl (Nat.le_of_ble_eq_true rfl) (g_0E ?_)
      refine g_lload_n (q := 40) B dX8_simulate_39 rfl 1 rfl ?_
      refine g_lstore (q := 42) B dX8_simulate_40 rfl (by decide) (L' := [(4, .long (lI z)), (0, .ref (yA Y 82)), (1, .long (lI z)), (3, .int (iI m))]) rfl ?_
      refine g_iconst (q := 43) B dX8_simulate_42 rfl ?_
      refine g_istore (q := 45) B dX8_simulate_43 rfl (by decide) (L' := [(6, .int (iI 0)), (4, .long (lI z)), (0, .ref (yA Y 82)), (1, .long (lI z)), (3, .int (iI m))]) rfl ?_
      refine g_sub [2, 3, 4, 1, 0] rfl ?_
      exact lp45 _ 0 _ _ _ (by first | rfl | omega) (by first | rfl | omega) (by first | assumption | omega) (by first | assumption | omega) (by exact mw_cp (us S 82 (uq (S 82) 0 0))) (by exact fm_us) (Nat.lt_succ_self _)
    · exact absurd cq21 (by decide)
