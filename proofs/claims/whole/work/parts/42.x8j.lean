set_option maxHeartbeats 4000000 in
theorem c_X8_command {Y : gY} {l : Launch} {S : SS} (hw : wf (mw S 85)) (h f : Int) (hh : 0 ≤ h ∧ h ≤ 9) (hf0 : 0 ≤ f ∧ f < 10000) : gM Y l mX8_command S [.ref (yA Y 82), .int (iI h), .int (iI f)] (pV (.int (iI (cmB h f (mw S 85)))) (fun S' => mw S' 85 = cmG h f (mw S 85) ∧ f8 S S')) := by
  refine gM_of (by decide) (Nat.le_of_ble_eq_true rfl) ?_
  intro X hXl B E
  obtain ⟨⟨hn0, hn16⟩, ⟨hb0, hb1⟩, ⟨hm0, hm1⟩, ⟨hs0, hs1⟩, ⟨hc0, hc1⟩, hct, hkw, how⟩ := wfT hw
  have m0 : mw S 85 0 = S 85 0 := rfl
  have hrr := runsF_in (mw S 85)
  have e8 : 0 ≤ f / 100 → f / 100 < 16 → mw S 85 (38 + f / 100) = S 85 (38 + f / 100) := fun a b => mw_e S 85 (by omega) (by omega)
  show gW Y X S 0 [(0, .ref (yA Y 82)), (1, .int (iI h)), (2, .int (iI f))] []
  refine g_iload_n (q := 1) B dX8_command_0 rfl 2 rfl ?_
  refine g_bipush (q := 3) B dX8_command_1 rfl (by decide) ?_
  refine g_idiv (q := 4) B dX8_command_3 rfl (by omega) (by omega) (by omega) (by omega) ?_
  refine g_istore_n (q := 5) B dX8_command_4 rfl (by decide) (L' := [(3, .int (iI (f / 100))), (0, .ref (yA Y 82)), (1, .int (iI h)), (2, .int (iI f))]) rfl ?_
  refine g_iload_n (q := 6) B dX8_command_5 rfl 3 rfl ?_
  refine g_bipush (q := 8) B dX8_command_6 rfl (by decide) ?_
  refine g_idiv (q := 9) B dX8_command_8 rfl (by omega) (by omega) (by omega) (by omega) ?_
  refine g_bipush (q := 11) B dX8_command_9 rfl (by decide) ?_
  refine g_irem (q := 12) B dX8_command_11 rfl (by omega) (by omega) (by omega) (by omega) ?_
  refine g_istore (q := 14) B dX8_command_12 rfl (by decide) (L' := [(4, .int (iI ((f / 10) % 10))), (3, .int (iI (f / 100))), (0, .ref (yA Y 82)), (1, .int (iI h)), (2, .int (iI f))]) rfl ?_
  refine g_iload_n (q := 15) B dX8_command_14 rfl 4 rfl ?_
  refine g_bipush (q := 17) B dX8_command_15 rfl (by decide) ?_
  refine g_irem (q := 18) B dX8_command_17 rfl (by omega) (by omega) (by omega) (by omega) ?_
  refine g_istore (q := 20) B dX8_command_18 rfl (by decide) (L' := [(5, .int (iI (f % 10))), (4, .int (iI ((f / 10) % 10))), (3, .int (iI (f / 100))), (0, .ref (yA Y 82)), (1, .int (iI h)), (2, .int (iI f))]) rfl ?_
  refine g_iload_n (q := 21) B dX8_command_20 rfl 5 rfl ?_
  refine g_bipush (q := 23) B dX8_command_21 rfl (by decide) ?_
  refine g_irem (q := 24) B dX8_command_23 rfl (by omega) (by omega) (by omega) (by omega) ?_
  refine g_istore (q := 26) B dX8_command_24 rfl (by decide) (L' := [(6, .int (iI (f % 100))), (5, .int (iI (f % 10))), (4, .int (iI ((f / 10) % 10))), (3, .int (iI (f / 100))), (0, .ref (yA Y 82)), (1, .int (iI h)), (2, .int (iI f))]) rfl ?_
  refine g_iload_n (q := 27) B dX8_command_26 rfl 5 rfl ?_
  rcases (show h = 1 ∨ h = 2 ∨ h = 3 ∨ h = 4 ∨ h = 5 ∨ h = 6 ∨ h = 7 ∨ h = 8 ∨ h = 9 ∨ (h ≠ 1 ∧ h ≠ 2 ∧ h ≠ 3 ∧ h ≠ 4 ∧ h ≠ 5 ∧ h ≠ 6 ∧ h ≠ 7 ∧ h ≠ 8 ∧ h ≠ 9) by omega) with cq27 | cq27 | cq27 | cq27 | cq27 | cq27 | cq27 | cq27 | cq27 | cq27
  · refine g_tsIn (q := 76) B 1 dX8_command_27 cq27 ⟨by decide, by decide, by decide, by decide⟩ rfl (by decide) ?_
    refine g_iload (q := 78) B dX8_command_76 rfl 0 rfl ?_
    refine g_iconst (q := 79) B dX8_command_78 rfl ?_
    refine g_icmp_ge (t := 119) (q := 82) B dX8_command_79 (by decide) rfl ⟨by omega, by omega⟩ ⟨by omega, by omega⟩ (fun cq79 => ?_) (fun cq79 => ?_)
    · refine g_iconst (q := 120) B dX8_command_119 rfl ?_
      refine g_zret B E dX8_command_120 rfl (by decide) ?_
      subst cq27
      exact ⟨congrArg (fun z => some (Value.int (iI z))) (show (0 : Int) = cmB 1 f (mw S 85) by rw [show cmB 1 f (mw S 85) = (if f % 100 < 2 ∧ 1 ≤ f / 100 ∧ f / 100 ≤ mw S 85 0 - 1 then 1 else 0) from rfl]; (repeat' split) <;> omega), (by rw [show cmG 1 f (mw S 85) = (if f % 100 < 2 then cutG (mw S 85) (f / 100) (f % 100) else mw S 85) from rfl]; split <;> first | omega | (unfold cutG; split <;> first | omega | (rfl)) | rfl), f8_r⟩
    · refine g_aload_n (q := 83) B dX8_command_82 rfl 4 rfl ?_
      refine g_get (n := 82) (ty := tyX8) (q := 86) (v := .ref (yA Y 85)) B dX8_command_83 rfl rfl rfl cls6 4 (by decide) w955 rfl ?_
      refine g_iload_n (q := 87) B dX8_command_86 rfl 3 rfl ?_
      refine g_callS (q := 90) (As := [.ref (yA Y 85), .int (iI (f / 100))]) (st := []) B dX8_command_87 rfl (c_X8_isCutPlace (l := xL X) (S := S) (Or.inr rfl) (wf.b hw) (f / 100) ⟨by omega, by omega⟩) eX8_isCutPlace w1047 (by decide) rfl rfl (Nat.le_of_ble_eq_true rfl) (g_kE ?_)
      refine g_ifb_eq (t := 119) (q := 93) B dX8_command_90 (by decide) rfl (fun cq90 => ?_) (fun cq90 => ?_)
      · refine g_iconst (q := 120) B dX8_command_119 rfl ?_
        refine g_zret B E dX8_command_120 rfl (by decide) ?_
        subst cq27
        exact ⟨congrArg (fun z => some (Value.int (iI z))) (show (0 : Int) = cmB 1 f (mw S 85) by rw [show cmB 1 f (mw S 85) = (if f % 100 < 2 ∧ 1 ≤ f / 100 ∧ f / 100 ≤ mw S 85 0 - 1 then 1 else 0) from rfl]; (repeat' split) <;> omega), (by rw [show cmG 1 f (mw S 85) = (if f % 100 < 2 then cutG (mw S 85) (f / 100) (f % 100) else mw S 85) from rfl]; split <;> first | omega | (unfold cutG; split <;> first | omega | (rfl)) | rfl), f8_r⟩
      · refine g_aload_n (q := 94) B dX8_command_93 rfl 4 rfl ?_
        refine g_get (n := 82) (ty := tyX8) (q := 97) (v := .ref (yA Y 85)) B dX8_command_94 rfl rfl rfl cls6 4 (by decide) w955 rfl ?_
        refine g_iload_n (q := 98) B dX8_command_97 rfl 3 rfl ?_
        refine g_iload (q := 100) B dX8_command_98 rfl 0 rfl ?_
        refine g_iconst (q := 101) B dX8_command_100 rfl ?_
        refine g_icmp_ne (t := 108) (q := 104) B dX8_command_101 (by decide) rfl ⟨by omega, by omega⟩ ⟨by omega, by omega⟩ (fun cq101 => ?_) (fun cq101 => ?_)
        · refine g_iconst (q := 109) B dX8_command_108 rfl ?_
          refine g_callS (q := 112) (As := [.ref (yA Y 85), .int (iI (f / 100)), .int (iI 0)]) (st := []) B dX8_command_109 rfl (c_X8_cutOn (l := xL X) (S := S) (Or.inr rfl) hw (f / 100) 0 (by omega) (by omega) (by omega)) eX8_cutOn w1050 (by decide) rfl rfl (Nat.le_of_ble_eq_true rfl) (g_kV (fun Sy hSy => ?_))
          obtain ⟨hvSy, hfSy⟩ := hSy
          have := runsF_in (cutF (mw S 85) (f / 100) ((0 : Int) = 1))
          have := cutF_r (g := mw S 85) (f / 100) ((0 : Int) = 1) (by omega)
          refine g_if_le (t := 119) (q := 115) B dX8_command_112 (by decide) rfl ⟨by omega, by omega⟩ (fun cq112 => ?_) (fun cq112 => ?_)
          · exact absurd cq112 (by omega)
          · refine g_iconst (q := 116) B dX8_command_115 rfl ?_
            refine g_goto (q := 120) B dX8_command_116 (by decide) ?_
            refine g_zret B E dX8_command_120 rfl (by decide) ?_
            subst cq27
            exact ⟨congrArg (fun z => some (Value.int (iI z))) (show (1 : Int) = cmB 1 f (mw S 85) by rw [show cmB 1 f (mw S 85) = (if f % 100 < 2 ∧ 1 ≤ f / 100 ∧ f / 100 ≤ mw S 85 0 - 1 then 1 else 0) from rfl]; (repeat' split) <;> omega), (by rw [show cmG 1 f (mw S 85) = (if f % 100 < 2 then cutG (mw S 85) (f / 100) (f % 100) else mw S 85) from rfl]; split <;> first | omega | (unfold cutG; split <;> first | omega | (exact hvSy.trans (cutF_iff (by omega)))) | rfl), f8_m hfSy⟩
        · refine g_iconst (q := 105) B dX8_command_104 rfl ?_
          refine g_goto (q := 109) B dX8_command_105 (by decide) ?_
          refine g_callS (q := 112) (As := [.ref (yA Y 85), .int (iI (f / 100)), .int (iI 1)]) (st := []) B dX8_command_109 rfl (c_X8_cutOn (l := xL X) (S := S) (Or.inr rfl) hw (f / 100) 1 (by omega) (by omega) (by omega)) eX8_cutOn w1050 (by decide) rfl rfl (Nat.le_of_ble_eq_true rfl) (g_kV (fun Sy hSy => ?_))
          obtain ⟨hvSy, hfSy⟩ := hSy
          have := runsF_in (cutF (mw S 85) (f / 100) ((1 : Int) = 1))
          have := cutF_r (g := mw S 85) (f / 100) ((1 : Int) = 1) (by omega)
          refine g_if_le (t := 119) (q := 115) B dX8_command_112 (by decide) rfl ⟨by omega, by omega⟩ (fun cq112 => ?_) (fun cq112 => ?_)
          · exact absurd cq112 (by omega)
          · refine g_iconst (q := 116) B dX8_command_115 rfl ?_
            refine g_goto (q := 120) B dX8_command_116 (by decide) ?_
            refine g_zret B E dX8_command_120 rfl (by decide) ?_
            subst cq27
            exact ⟨congrArg (fun z => some (Value.int (iI z))) (show (1 : Int) = cmB 1 f (mw S 85) by rw [show cmB 1 f (mw S 85) = (if f % 100 < 2 ∧ 1 ≤ f / 100 ∧ f / 100 ≤ mw S 85 0 - 1 then 1 else 0) from rfl]; (repeat' split) <;> omega), (by rw [show cmG 1 f (mw S 85) = (if f % 100 < 2 then cutG (mw S 85) (f / 100) (f % 100) else mw S 85) from rfl]; split <;> first | omega | (unfold cutG; split <;> first | omega | (exact hvSy.trans (cutF_iff (by omega)))) | rfl), f8_m hfSy⟩
  · refine g_tsIn (q := 121) B 2 dX8_command_27 cq27 ⟨by decide, by decide, by decide, by decide⟩ rfl (by decide) ?_
    refine g_iload (q := 123) B dX8_command_121 rfl 0 rfl ?_
    refine g_iconst (q := 124) B dX8_command_123 rfl ?_
    refine g_icmp_ge (t := 165) (q := 127) B dX8_command_124 (by decide) rfl ⟨by omega, by omega⟩ ⟨by omega, by omega⟩ (fun cq124 => ?_) (fun cq124 => ?_)
    · refine g_iconst (q := 166) B dX8_command_165 rfl ?_
      refine g_zret B E dX8_command_166 rfl (by decide) ?_
      subst cq27
      exact ⟨congrArg (fun z => some (Value.int (iI z))) (show (0 : Int) = cmB 2 f (mw S 85) by rw [show cmB 2 f (mw S 85) = (if f % 100 < 3 ∧ 0 ≤ f / 100 ∧ f / 100 ≤ runsF (mw S 85) - 1 then 1 else 0) from rfl]; (repeat' split) <;> omega), (by rw [show cmG 2 f (mw S 85) = (if f % 100 < 3 then giveG (mw S 85) (f / 100) (enO (f % 100)) else mw S 85) from rfl]; split <;> first | omega | (unfold giveG enO; (repeat' split) <;> first | omega | rfl) | rfl), f8_r⟩
    · refine g_aload_n (q := 128) B dX8_command_127 rfl 4 rfl ?_
      refine g_get (n := 82) (ty := tyX8) (q := 131) (v := .ref (yA Y 85)) B dX8_command_128 rfl rfl rfl cls6 4 (by decide) w955 rfl ?_
      refine g_iload_n (q := 132) B dX8_command_131 rfl 3 rfl ?_
      refine g_callS (q := 135) (As := [.ref (yA Y 85), .int (iI (f / 100))]) (st := []) B dX8_command_132 rfl (c_X8_isRun (l := xL X) (S := S) (Or.inr rfl) (wf.b hw) (f / 100) ⟨by omega, by omega⟩) eX8_isRun w1065 (by decide) rfl rfl (Nat.le_of_ble_eq_true rfl) (g_kE ?_)
      have := runsF_in (mw S 85)
      refine g_ifb_eq (t := 165) (q := 138) B dX8_command_135 (by decide) rfl (fun cq135 => ?_) (fun cq135 => ?_)
      · refine g_iconst (q := 166) B dX8_command_165 rfl ?_
        refine g_zret B E dX8_command_166 rfl (by decide) ?_
        subst cq27
        exact ⟨congrArg (fun z => some (Value.int (iI z))) (show (0 : Int) = cmB 2 f (mw S 85) by rw [show cmB 2 f (mw S 85) = (if f % 100 < 3 ∧ 0 ≤ f / 100 ∧ f / 100 ≤ runsF (mw S 85) - 1 then 1 else 0) from rfl]; (repeat' split) <;> omega), (by rw [show cmG 2 f (mw S 85) = (if f % 100 < 3 then giveG (mw S 85) (f / 100) (enO (f % 100)) else mw S 85) from rfl]; split <;> first | omega | (unfold giveG enO; (repeat' split) <;> first | omega | rfl) | rfl), f8_r⟩
      · refine g_aload_n (q := 139) B dX8_command_138 rfl 4 rfl ?_
        refine g_get (n := 82) (ty := tyX8) (q := 142) (v := .ref (yA Y 85)) B dX8_command_139 rfl rfl rfl cls6 4 (by decide) w955 rfl ?_
        refine g_iload_n (q := 143) B dX8_command_142 rfl 3 rfl ?_
        refine g_iload (q := 145) B dX8_command_143 rfl 0 rfl ?_
        refine g_iconst (q := 146) B dX8_command_145 rfl ?_
        refine g_icmp_ne (t := 153) (q := 149) B dX8_command_146 (by decide) rfl ⟨by omega, by omega⟩ ⟨by omega, by omega⟩ (fun cq146 => ?_) (fun cq146 => ?_)
        · refine g_iload (q := 155) B dX8_command_153 rfl 0 rfl ?_
          refine g_callS (q := 158) (As := [.ref (yA Y 85), .int (iI (f / 100)), .int (iI (f % 100))]) (st := []) B dX8_command_155 rfl (c_X8_giveOn (l := xL X) (S := S) (Or.inr rfl) hw (f / 100) (f % 100) ⟨by omega, by omega⟩ ⟨by omega, by omega⟩) eX8_giveOn w1068 (by decide) rfl rfl (Nat.le_of_ble_eq_true rfl) (g_kV (fun Sy hSy => ?_))
          obtain ⟨hvSy, hfSy⟩ := hSy
          have := gapF_in (wf_give hw (f / 100) (o := (f % 100)) (by omega))
          refine g_if_lt (t := 165) (q := 161) B dX8_command_158 (by decide) rfl ⟨by omega, by omega⟩ (fun cq158 => ?_) (fun cq158 => ?_)
          · exact absurd cq158 (by omega)
          · refine g_iconst (q := 162) B dX8_command_161 rfl ?_
            refine g_goto (q := 166) B dX8_command_162 (by decide) ?_
            refine g_zret B E dX8_command_166 rfl (by decide) ?_
            subst cq27
            exact ⟨congrArg (fun z => some (Value.int (iI z))) (show (1 : Int) = cmB 2 f (mw S 85) by rw [show cmB 2 f (mw S 85) = (if f % 100 < 3 ∧ 0 ≤ f / 100 ∧ f / 100 ≤ runsF (mw S 85) - 1 then 1 else 0) from rfl]; (repeat' split) <;> omega), (by rw [show cmG 2 f (mw S 85) = (if f % 100 < 3 then giveG (mw S 85) (f / 100) (enO (f % 100)) else mw S 85) from rfl]; split <;> first | omega | (unfold giveG enO; (repeat' split) <;> first | omega | (exact hvSy.trans (congrArg (giveF (mw S 85) (f / 100)) (by unfold enO; split <;> omega))) | exact hvSy) | rfl), f8_m hfSy⟩
        · refine g_iconst (q := 150) B dX8_command_149 rfl ?_
          refine g_goto (q := 155) B dX8_command_150 (by decide) ?_
          refine g_callS (q := 158) (As := [.ref (yA Y 85), .int (iI (f / 100)), .int (iI (-1))]) (st := []) B dX8_command_155 rfl (c_X8_giveOn (l := xL X) (S := S) (Or.inr rfl) hw (f / 100) (-1) ⟨by omega, by omega⟩ ⟨by omega, by omega⟩) eX8_giveOn w1068 (by decide) rfl rfl (Nat.le_of_ble_eq_true rfl) (g_kV (fun Sy hSy => ?_))
          obtain ⟨hvSy, hfSy⟩ := hSy
          have := gapF_in (wf_give hw (f / 100) (o := (-1)) (by omega))
          refine g_if_lt (t := 165) (q := 161) B dX8_command_158 (by decide) rfl ⟨by omega, by omega⟩ (fun cq158 => ?_) (fun cq158 => ?_)
          · exact absurd cq158 (by omega)
          · refine g_iconst (q := 162) B dX8_command_161 rfl ?_
            refine g_goto (q := 166) B dX8_command_162 (by decide) ?_
            refine g_zret B E dX8_command_166 rfl (by decide) ?_
            subst cq27
            exact ⟨congrArg (fun z => some (Value.int (iI z))) (show (1 : Int) = cmB 2 f (mw S 85) by rw [show cmB 2 f (mw S 85) = (if f % 100 < 3 ∧ 0 ≤ f / 100 ∧ f / 100 ≤ runsF (mw S 85) - 1 then 1 else 0) from rfl]; (repeat' split) <;> omega), (by rw [show cmG 2 f (mw S 85) = (if f % 100 < 3 then giveG (mw S 85) (f / 100) (enO (f % 100)) else mw S 85) from rfl]; split <;> first | omega | (unfold giveG enO; (repeat' split) <;> first | omega | (exact hvSy.trans (congrArg (giveF (mw S 85) (f / 100)) (by unfold enO; split <;> omega))) | exact hvSy) | rfl), f8_m hfSy⟩
  · refine g_tsIn (q := 167) B 3 dX8_command_27 cq27 ⟨by decide, by decide, by decide, by decide⟩ rfl (by decide) ?_
    refine g_iload (q := 169) B dX8_command_167 rfl 0 rfl ?_
    refine g_if_ne (t := 198) (q := 172) B dX8_command_169 (by decide) rfl ⟨by omega, by omega⟩ (fun cq169 => ?_) (fun cq169 => ?_)
    · refine g_iconst (q := 199) B dX8_command_198 rfl ?_
      refine g_zret B E dX8_command_199 rfl (by decide) ?_
      subst cq27
      exact ⟨congrArg (fun z => some (Value.int (iI z))) (show (0 : Int) = cmB 3 f (mw S 85) by rw [show cmB 3 f (mw S 85) = (if f % 100 = 0 ∧ (0 ≤ f / 100 ∧ f / 100 ≤ runsF (mw S 85) - 1) ∧ whyF (mw S 85) (f / 100) = 0 then 1 else 0) from rfl]; (repeat' split) <;> omega), (by rw [show cmG 3 f (mw S 85) = (if f % 100 = 0 ∧ 0 ≤ f / 100 ∧ f / 100 < runsF (mw S 85) then takeM (mw S 85) (f / 100) else mw S 85) from rfl]; split <;> first | omega | (rfl) | rfl), f8_r⟩
    · refine g_aload_n (q := 173) B dX8_command_172 rfl 4 rfl ?_
      refine g_get (n := 82) (ty := tyX8) (q := 176) (v := .ref (yA Y 85)) B dX8_command_173 rfl rfl rfl cls6 4 (by decide) w955 rfl ?_
      refine g_iload_n (q := 177) B dX8_command_176 rfl 3 rfl ?_
      refine g_callS (q := 180) (As := [.ref (yA Y 85), .int (iI (f / 100))]) (st := []) B dX8_command_177 rfl (c_X8_isRun (l := xL X) (S := S) (Or.inr rfl) (wf.b hw) (f / 100) ⟨by omega, by omega⟩) eX8_isRun w1065 (by decide) rfl rfl (Nat.le_of_ble_eq_true rfl) (g_kE ?_)
      have := runsF_in (mw S 85)
      refine g_ifb_eq (t := 198) (q := 183) B dX8_command_180 (by decide) rfl (fun cq180 => ?_) (fun cq180 => ?_)
      · refine g_iconst (q := 199) B dX8_command_198 rfl ?_
        refine g_zret B E dX8_command_199 rfl (by decide) ?_
        subst cq27
        exact ⟨congrArg (fun z => some (Value.int (iI z))) (show (0 : Int) = cmB 3 f (mw S 85) by rw [show cmB 3 f (mw S 85) = (if f % 100 = 0 ∧ (0 ≤ f / 100 ∧ f / 100 ≤ runsF (mw S 85) - 1) ∧ whyF (mw S 85) (f / 100) = 0 then 1 else 0) from rfl]; (repeat' split) <;> omega), (by rw [show cmG 3 f (mw S 85) = (if f % 100 = 0 ∧ 0 ≤ f / 100 ∧ f / 100 < runsF (mw S 85) then takeM (mw S 85) (f / 100) else mw S 85) from rfl]; split <;> first | omega | (rfl) | rfl), f8_r⟩
      · refine g_aload_n (q := 184) B dX8_command_183 rfl 4 rfl ?_
        refine g_get (n := 82) (ty := tyX8) (q := 187) (v := .ref (yA Y 85)) B dX8_command_184 rfl rfl rfl cls6 4 (by decide) w955 rfl ?_
        refine g_iload_n (q := 188) B dX8_command_187 rfl 3 rfl ?_
        refine g_callS (q := 191) (As := [.ref (yA Y 85), .int (iI (f / 100))]) (st := []) B dX8_command_188 rfl (c_X8_takeOn (l := xL X) (S := S) (Or.inr rfl) hw (f / 100) (by omega) (by omega)) eX8_takeOn w1089 (by decide) rfl rfl (Nat.le_of_ble_eq_true rfl) (g_kV (fun Sy hSy => ?_))
        obtain ⟨hvSy, hfSy⟩ := hSy
        have := whyF_in (mw S 85) (f / 100)
        refine g_if_ne (t := 198) (q := 194) B dX8_command_191 (by decide) rfl ⟨by omega, by omega⟩ (fun cq191 => ?_) (fun cq191 => ?_)
        · refine g_iconst (q := 199) B dX8_command_198 rfl ?_
          refine g_zret B E dX8_command_199 rfl (by decide) ?_
          subst cq27
          exact ⟨congrArg (fun z => some (Value.int (iI z))) (show (0 : Int) = cmB 3 f (mw S 85) by rw [show cmB 3 f (mw S 85) = (if f % 100 = 0 ∧ (0 ≤ f / 100 ∧ f / 100 ≤ runsF (mw S 85) - 1) ∧ whyF (mw S 85) (f / 100) = 0 then 1 else 0) from rfl]; (repeat' split) <;> omega), (by rw [show cmG 3 f (mw S 85) = (if f % 100 = 0 ∧ 0 ≤ f / 100 ∧ f / 100 < runsF (mw S 85) then takeM (mw S 85) (f / 100) else mw S 85) from rfl]; split <;> first | omega | (exact hvSy) | rfl), f8_m hfSy⟩
        · refine g_iconst (q := 195) B dX8_command_194 rfl ?_
          refine g_goto (q := 199) B dX8_command_195 (by decide) ?_
          refine g_zret B E dX8_command_199 rfl (by decide) ?_
          subst cq27
          exact ⟨congrArg (fun z => some (Value.int (iI z))) (show (1 : Int) = cmB 3 f (mw S 85) by rw [show cmB 3 f (mw S 85) = (if f % 100 = 0 ∧ (0 ≤ f / 100 ∧ f / 100 ≤ runsF (mw S 85) - 1) ∧ whyF (mw S 85) (f / 100) = 0 then 1 else 0) from rfl]; (repeat' split) <;> omega), (by rw [show cmG 3 f (mw S 85) = (if f % 100 = 0 ∧ 0 ≤ f / 100 ∧ f / 100 < runsF (mw S 85) then takeM (mw S 85) (f / 100) else mw S 85) from rfl]; split <;> first | omega | (exact hvSy) | rfl), f8_m hfSy⟩
  · refine g_tsIn (q := 200) B 4 dX8_command_27 cq27 ⟨by decide, by decide, by decide, by decide⟩ rfl (by decide) ?_
    refine g_iload_n (q := 201) B dX8_command_200 rfl 6 rfl ?_
    refine g_iconst (q := 202) B dX8_command_201 rfl ?_
    refine g_icmp_ge (t := 220) (q := 205) B dX8_command_202 (by decide) rfl ⟨by omega, by omega⟩ ⟨by omega, by omega⟩ (fun cq202 => ?_) (fun cq202 => ?_)
    · refine g_iconst (q := 221) B dX8_command_220 rfl ?_
      refine g_zret B E dX8_command_221 rfl (by decide) ?_
      subst cq27
      exact ⟨congrArg (fun z => some (Value.int (iI z))) (show (0 : Int) = cmB 4 f (mw S 85) by rw [show cmB 4 f (mw S 85) = (if f < 2 then 1 else 0) from rfl]; (repeat' split) <;> omega), (by rw [show cmG 4 f (mw S 85) = (if f < 2 then dealG (mw S 85) f else mw S 85) from rfl]; split <;> first | omega | (unfold dealG; split <;> first | omega | (rfl)) | rfl), f8_r⟩
    · refine g_aload_n (q := 206) B dX8_command_205 rfl 4 rfl ?_
      refine g_get (n := 82) (ty := tyX8) (q := 209) (v := .ref (yA Y 85)) B dX8_command_206 rfl rfl rfl cls6 4 (by decide) w955 rfl ?_
      refine g_iload_n (q := 210) B dX8_command_209 rfl 6 rfl ?_
      refine g_callS (q := 213) (As := [.ref (yA Y 85), .int (iI f)]) (st := []) B dX8_command_210 rfl (c_X8_dealOn (l := xL X) (S := S) (Or.inr rfl) (wf.b hw) f ⟨by omega, by omega⟩ (wf_deal hw f)) eX8_dealOn w1092 (by decide) rfl rfl (Nat.le_of_ble_eq_true rfl) (g_kV (fun Sy hSy => ?_))
      obtain ⟨hvSy, hfSy⟩ := hSy
      have := gapF_in (wf_deal hw f)
      refine g_if_lt (t := 220) (q := 216) B dX8_command_213 (by decide) rfl ⟨by omega, by omega⟩ (fun cq213 => ?_) (fun cq213 => ?_)
      · exact absurd cq213 (by omega)
      · refine g_iconst (q := 217) B dX8_command_216 rfl ?_
        refine g_goto (q := 221) B dX8_command_217 (by decide) ?_
        refine g_zret B E dX8_command_221 rfl (by decide) ?_
        subst cq27
        exact ⟨congrArg (fun z => some (Value.int (iI z))) (show (1 : Int) = cmB 4 f (mw S 85) by rw [show cmB 4 f (mw S 85) = (if f < 2 then 1 else 0) from rfl]; (repeat' split) <;> omega), (by rw [show cmG 4 f (mw S 85) = (if f < 2 then dealG (mw S 85) f else mw S 85) from rfl]; split <;> first | omega | (unfold dealG; split <;> first | omega | (exact hvSy)) | rfl), f8_m hfSy⟩
  · refine g_tsIn (q := 222) B 5 dX8_command_27 cq27 ⟨by decide, by decide, by decide, by decide⟩ rfl (by decide) ?_
    refine g_iload (q := 224) B dX8_command_222 rfl 0 rfl ?_
    refine g_if_ne (t := 253) (q := 227) B dX8_command_224 (by decide) rfl ⟨by omega, by omega⟩ (fun cq224 => ?_) (fun cq224 => ?_)
    · refine g_iconst (q := 254) B dX8_command_253 rfl ?_
      refine g_zret B E dX8_command_254 rfl (by decide) ?_
      subst cq27
      exact ⟨congrArg (fun z => some (Value.int (iI z))) (show (0 : Int) = cmB 5 f (mw S 85) by rw [show cmB 5 f (mw S 85) = (if f % 100 = 0 ∧ 0 ≤ f / 100 ∧ f / 100 ≤ mw S 85 0 - 1 then 1 else 0) from rfl]; (repeat' split) <;> omega), (by rw [show cmG 5 f (mw S 85) = (if f % 100 = 0 then brkG (mw S 85) (f / 100) else mw S 85) from rfl]; split <;> first | omega | (unfold brkG; split <;> first | omega | (rfl)) | rfl), f8_r⟩
    · refine g_aload_n (q := 228) B dX8_command_227 rfl 4 rfl ?_
      refine g_get (n := 82) (ty := tyX8) (q := 231) (v := .ref (yA Y 85)) B dX8_command_228 rfl rfl rfl cls6 4 (by decide) w955 rfl ?_
      refine g_iload_n (q := 232) B dX8_command_231 rfl 3 rfl ?_
      refine g_callS (q := 235) (As := [.ref (yA Y 85), .int (iI (f / 100))]) (st := []) B dX8_command_232 rfl (c_X8_isJewel (l := xL X) (S := S) (Or.inr rfl) (wf.b hw) (f / 100) ⟨by omega, by omega⟩) eX8_isJewel w1041 (by decide) rfl rfl (Nat.le_of_ble_eq_true rfl) (g_kE ?_)
      refine g_ifb_eq (t := 253) (q := 238) B dX8_command_235 (by decide) rfl (fun cq235 => ?_) (fun cq235 => ?_)
      · refine g_iconst (q := 254) B dX8_command_253 rfl ?_
        refine g_zret B E dX8_command_254 rfl (by decide) ?_
        subst cq27
        exact ⟨congrArg (fun z => some (Value.int (iI z))) (show (0 : Int) = cmB 5 f (mw S 85) by rw [show cmB 5 f (mw S 85) = (if f % 100 = 0 ∧ 0 ≤ f / 100 ∧ f / 100 ≤ mw S 85 0 - 1 then 1 else 0) from rfl]; (repeat' split) <;> omega), (by rw [show cmG 5 f (mw S 85) = (if f % 100 = 0 then brkG (mw S 85) (f / 100) else mw S 85) from rfl]; split <;> first | omega | (unfold brkG; split <;> first | omega | (rfl)) | rfl), f8_r⟩
      · refine g_aload_n (q := 239) B dX8_command_238 rfl 4 rfl ?_
        refine g_get (n := 82) (ty := tyX8) (q := 242) (v := .ref (yA Y 85)) B dX8_command_239 rfl rfl rfl cls6 4 (by decide) w955 rfl ?_
        refine g_iload_n (q := 243) B dX8_command_242 rfl 3 rfl ?_
        refine g_callS (q := 246) (As := [.ref (yA Y 85), .int (iI (f / 100))]) (st := []) B dX8_command_243 rfl (c_X8_breakOn (l := xL X) (S := S) (Or.inr rfl) hw (f / 100) (by omega) (by omega)) eX8_breakOn w1044 (by decide) rfl rfl (Nat.le_of_ble_eq_true rfl) (g_kV (fun Sy hSy => ?_))
        obtain ⟨hvSy, hfSy⟩ := hSy
        refine g_if_lt (t := 253) (q := 249) B dX8_command_246 (by decide) rfl ⟨by omega, by omega⟩ (fun cq246 => ?_) (fun cq246 => ?_)
        · exact absurd cq246 (by omega)
        · refine g_iconst (q := 250) B dX8_command_249 rfl ?_
          refine g_goto (q := 254) B dX8_command_250 (by decide) ?_
          refine g_zret B E dX8_command_254 rfl (by decide) ?_
          subst cq27
          exact ⟨congrArg (fun z => some (Value.int (iI z))) (show (1 : Int) = cmB 5 f (mw S 85) by rw [show cmB 5 f (mw S 85) = (if f % 100 = 0 ∧ 0 ≤ f / 100 ∧ f / 100 ≤ mw S 85 0 - 1 then 1 else 0) from rfl]; (repeat' split) <;> omega), (by rw [show cmG 5 f (mw S 85) = (if f % 100 = 0 then brkG (mw S 85) (f / 100) else mw S 85) from rfl]; split <;> first | omega | (unfold brkG; split <;> first | omega | (exact hvSy)) | rfl), f8_m hfSy⟩
  · refine g_tsIn (q := 255) B 6 dX8_command_27 cq27 ⟨by decide, by decide, by decide, by decide⟩ rfl (by decide) ?_
    refine g_iload_n (q := 256) B dX8_command_255 rfl 6 rfl ?_
    refine g_bipush (q := 258) B dX8_command_256 rfl (by decide) ?_
    refine g_icmp_ge (t := 276) (q := 261) B dX8_command_258 (by decide) rfl ⟨by omega, by omega⟩ ⟨by omega, by omega⟩ (fun cq258 => ?_) (fun cq258 => ?_)
    · refine g_iconst (q := 277) B dX8_command_276 rfl ?_
      refine g_zret B E dX8_command_277 rfl (by decide) ?_
      subst cq27
      exact ⟨congrArg (fun z => some (Value.int (iI z))) (show (0 : Int) = cmB 6 f (mw S 85) by rw [show cmB 6 f (mw S 85) = (if f < 100 ∧ gapF (mw S 85) ≤ f then 1 else 0) from rfl]; (repeat' split) <;> omega), (rfl), f8_r⟩
    · refine g_aload_n (q := 262) B dX8_command_261 rfl 4 rfl ?_
      refine g_get (n := 82) (ty := tyX8) (q := 265) (v := .ref (yA Y 85)) B dX8_command_262 rfl rfl rfl cls6 4 (by decide) w955 rfl ?_
      refine g_callS (q := 268) (As := [.ref (yA Y 85)]) (st := []) B dX8_command_265 rfl (c_X8_gap (l := xL X) (S := S) (Or.inr rfl) hw  ) eX8_gap w1071 (by decide) rfl rfl (Nat.le_of_ble_eq_true rfl) (g_kE ?_)
      have := gapF_in hw
      refine g_iload_n (q := 269) B dX8_command_268 rfl 6 rfl ?_
      refine g_icmp_gt (t := 276) (q := 272) B dX8_command_269 (by decide) rfl ⟨by omega, by omega⟩ ⟨by omega, by omega⟩ (fun cq269 => ?_) (fun cq269 => ?_)
      · refine g_iconst (q := 277) B dX8_command_276 rfl ?_
        refine g_zret B E dX8_command_277 rfl (by decide) ?_
        subst cq27
        exact ⟨congrArg (fun z => some (Value.int (iI z))) (show (0 : Int) = cmB 6 f (mw S 85) by rw [show cmB 6 f (mw S 85) = (if f < 100 ∧ gapF (mw S 85) ≤ f then 1 else 0) from rfl]; (repeat' split) <;> omega), (rfl), f8_r⟩
      · refine g_iconst (q := 273) B dX8_command_272 rfl ?_
        refine g_goto (q := 277) B dX8_command_273 (by decide) ?_
        refine g_zret B E dX8_command_277 rfl (by decide) ?_
        subst cq27
        exact ⟨congrArg (fun z => some (Value.int (iI z))) (show (1 : Int) = cmB 6 f (mw S 85) by rw [show cmB 6 f (mw S 85) = (if f < 100 ∧ gapF (mw S 85) ≤ f then 1 else 0) from rfl]; (repeat' split) <;> omega), (rfl), f8_r⟩
  · refine g_tsIn (q := 278) B 7 dX8_command_27 cq27 ⟨by decide, by decide, by decide, by decide⟩ rfl (by decide) ?_
    refine g_iload_n (q := 279) B dX8_command_278 rfl 6 rfl ?_
    refine g_bipush (q := 281) B dX8_command_279 rfl (by decide) ?_
    refine g_icmp_ge (t := 296) (q := 284) B dX8_command_281 (by decide) rfl ⟨by omega, by omega⟩ ⟨by omega, by omega⟩ (fun cq281 => ?_) (fun cq281 => ?_)
    · refine g_iconst (q := 297) B dX8_command_296 rfl ?_
      refine g_zret B E dX8_command_297 rfl (by decide) ?_
      subst cq27
      exact ⟨congrArg (fun z => some (Value.int (iI z))) (show (0 : Int) = cmB 7 f (mw S 85) by rw [show cmB 7 f (mw S 85) = (if f < 10 ∧ fewF (mw S 85) ≠ -1 ∧ fewF (mw S 85) ≤ f then 1 else 0) from rfl]; (repeat' split) <;> omega), (rfl), f8_r⟩
    · refine g_aload_n (q := 285) B dX8_command_284 rfl 4 rfl ?_
      refine g_iload_n (q := 286) B dX8_command_285 rfl 6 rfl ?_
      refine g_callV (n := 82) (ty := tyX8) (q := 289) (As := [.int (iI f)]) (st := []) B dX8_command_286 rfl (c_X8_isDivided (l := xL X) (S := S) hw f ⟨by omega, by omega⟩) eX8_isDivided w1252 (by decide) rfl rfl cls6 rfl rfl (Nat.le_of_ble_eq_true rfl) (g_kV (fun Sz hSz => ?_))
      obtain ⟨DSz, TSz, rfl⟩ := hSz
      refine g_ifb_eq (t := 296) (q := 292) B dX8_command_289 (by decide) rfl (fun cq289 => ?_) (fun cq289 => ?_)
      · refine g_iconst (q := 297) B dX8_command_296 rfl ?_
        refine g_zret B E dX8_command_297 rfl (by decide) ?_
        subst cq27
        exact ⟨congrArg (fun z => some (Value.int (iI z))) (show (0 : Int) = cmB 7 f (mw S 85) by rw [show cmB 7 f (mw S 85) = (if f < 10 ∧ fewF (mw S 85) ≠ -1 ∧ fewF (mw S 85) ≤ f then 1 else 0) from rfl]; (repeat' split) <;> omega), (rfl), f8_d⟩
      · refine g_iconst (q := 293) B dX8_command_292 rfl ?_
        refine g_goto (q := 297) B dX8_command_293 (by decide) ?_
        refine g_zret B E dX8_command_297 rfl (by decide) ?_
        subst cq27
        exact ⟨congrArg (fun z => some (Value.int (iI z))) (show (1 : Int) = cmB 7 f (mw S 85) by rw [show cmB 7 f (mw S 85) = (if f < 10 ∧ fewF (mw S 85) ≠ -1 ∧ fewF (mw S 85) ≤ f then 1 else 0) from rfl]; (repeat' split) <;> omega), (rfl), f8_d⟩
  · refine g_tsIn (q := 298) B 8 dX8_command_27 cq27 ⟨by decide, by decide, by decide, by decide⟩ rfl (by decide) ?_
    refine g_iload (q := 300) B dX8_command_298 rfl 2 rfl ?_
    refine g_if_ne (t := 348) (q := 303) B dX8_command_300 (by decide) rfl ⟨by omega, by omega⟩ (fun cq300 => ?_) (fun cq300 => ?_)
    · refine g_iconst (q := 349) B dX8_command_348 rfl ?_
      refine g_zret B E dX8_command_349 rfl (by decide) ?_
      subst cq27
      exact ⟨congrArg (fun z => some (Value.int (iI z))) (show (0 : Int) = cmB 8 f (mw S 85) by rw [show cmB 8 f (mw S 85) = (if f / 10 % 10 = 0 ∧ f % 10 < 3 ∧ (0 ≤ f / 100 ∧ f / 100 ≤ mw S 85 0 - 1) ∧ mw S 85 (38 + f / 100) = (if f % 10 = 2 then -1 else f % 10) then 1 else 0) from rfl]; (repeat' split) <;> omega), (rfl), f8_r⟩
    · refine g_iload (q := 305) B dX8_command_303 rfl 1 rfl ?_
      refine g_iconst (q := 306) B dX8_command_305 rfl ?_
      refine g_icmp_ge (t := 348) (q := 309) B dX8_command_306 (by decide) rfl ⟨by omega, by omega⟩ ⟨by omega, by omega⟩ (fun cq306 => ?_) (fun cq306 => ?_)
      · refine g_iconst (q := 349) B dX8_command_348 rfl ?_
        refine g_zret B E dX8_command_349 rfl (by decide) ?_
        subst cq27
        exact ⟨congrArg (fun z => some (Value.int (iI z))) (show (0 : Int) = cmB 8 f (mw S 85) by rw [show cmB 8 f (mw S 85) = (if f / 10 % 10 = 0 ∧ f % 10 < 3 ∧ (0 ≤ f / 100 ∧ f / 100 ≤ mw S 85 0 - 1) ∧ mw S 85 (38 + f / 100) = (if f % 10 = 2 then -1 else f % 10) then 1 else 0) from rfl]; (repeat' split) <;> omega), (rfl), f8_r⟩
      · refine g_aload_n (q := 310) B dX8_command_309 rfl 4 rfl ?_
        refine g_get (n := 82) (ty := tyX8) (q := 313) (v := .ref (yA Y 85)) B dX8_command_310 rfl rfl rfl cls6 4 (by decide) w955 rfl ?_
        refine g_iload_n (q := 314) B dX8_command_313 rfl 3 rfl ?_
        refine g_callS (q := 317) (As := [.ref (yA Y 85), .int (iI (f / 100))]) (st := []) B dX8_command_314 rfl (c_X8_isJewel (l := xL X) (S := S) (Or.inr rfl) (wf.b hw) (f / 100) ⟨by omega, by omega⟩) eX8_isJewel w1041 (by decide) rfl rfl (Nat.le_of_ble_eq_true rfl) (g_kE ?_)
        refine g_ifb_eq (t := 348) (q := 320) B dX8_command_317 (by decide) rfl (fun cq317 => ?_) (fun cq317 => ?_)
        · refine g_iconst (q := 349) B dX8_command_348 rfl ?_
          refine g_zret B E dX8_command_349 rfl (by decide) ?_
          subst cq27
          exact ⟨congrArg (fun z => some (Value.int (iI z))) (show (0 : Int) = cmB 8 f (mw S 85) by rw [show cmB 8 f (mw S 85) = (if f / 10 % 10 = 0 ∧ f % 10 < 3 ∧ (0 ≤ f / 100 ∧ f / 100 ≤ mw S 85 0 - 1) ∧ mw S 85 (38 + f / 100) = (if f % 10 = 2 then -1 else f % 10) then 1 else 0) from rfl]; (repeat' split) <;> omega), (rfl), f8_r⟩
        · have ho := how (f / 100) (by omega) (by omega)
          refine g_aload_n (q := 321) B dX8_command_320 rfl 4 rfl ?_
          refine g_get (n := 82) (ty := tyX8) (q := 324) (v := .ref (yA Y 85)) B dX8_command_321 rfl rfl rfl cls6 4 (by decide) w955 rfl ?_
          refine g_bipush (q := 326) B dX8_command_324 rfl (by decide) ?_
          refine g_iload_n (q := 327) B dX8_command_326 rfl 3 rfl ?_
          refine g_iadd (q := 328) B dX8_command_327 rfl ?_
          refine g_iald (n := 85) (q := 329) B dX8_command_328 rfl rfl rfl (by decide) (by omega) (by omega) ?_
          refine g_iload (q := 331) B dX8_command_329 rfl 1 rfl ?_
          refine g_iconst (q := 332) B dX8_command_331 rfl ?_
          refine g_icmp_ne (t := 339) (q := 335) B dX8_command_332 (by decide) rfl ⟨by omega, by omega⟩ ⟨by omega, by omega⟩ (fun cq332 => ?_) (fun cq332 => ?_)
          · refine g_iload (q := 341) B dX8_command_339 rfl 1 rfl ?_
            refine g_icmp_ne (t := 348) (q := 344) B dX8_command_341 (by decide) rfl ⟨by omega, by omega⟩ ⟨by omega, by omega⟩ (fun cq341 => ?_) (fun cq341 => ?_)
            · refine g_iconst (q := 349) B dX8_command_348 rfl ?_
              refine g_zret B E dX8_command_349 rfl (by decide) ?_
              subst cq27
              exact ⟨congrArg (fun z => some (Value.int (iI z))) (show (0 : Int) = cmB 8 f (mw S 85) by rw [show cmB 8 f (mw S 85) = (if f / 10 % 10 = 0 ∧ f % 10 < 3 ∧ (0 ≤ f / 100 ∧ f / 100 ≤ mw S 85 0 - 1) ∧ mw S 85 (38 + f / 100) = (if f % 10 = 2 then -1 else f % 10) then 1 else 0) from rfl]; (repeat' split) <;> omega), (rfl), f8_r⟩
            · refine g_iconst (q := 345) B dX8_command_344 rfl ?_
              refine g_goto (q := 349) B dX8_command_345 (by decide) ?_
              refine g_zret B E dX8_command_349 rfl (by decide) ?_
              subst cq27
              exact ⟨congrArg (fun z => some (Value.int (iI z))) (show (1 : Int) = cmB 8 f (mw S 85) by rw [show cmB 8 f (mw S 85) = (if f / 10 % 10 = 0 ∧ f % 10 < 3 ∧ (0 ≤ f / 100 ∧ f / 100 ≤ mw S 85 0 - 1) ∧ mw S 85 (38 + f / 100) = (if f % 10 = 2 then -1 else f % 10) then 1 else 0) from rfl]; (repeat' split) <;> omega), (rfl), f8_r⟩
          · refine g_iconst (q := 336) B dX8_command_335 rfl ?_
            refine g_goto (q := 341) B dX8_command_336 (by decide) ?_
            refine g_icmp_ne (t := 348) (q := 344) B dX8_command_341 (by decide) rfl ⟨by omega, by omega⟩ ⟨by omega, by omega⟩ (fun cq341 => ?_) (fun cq341 => ?_)
            · refine g_iconst (q := 349) B dX8_command_348 rfl ?_
              refine g_zret B E dX8_command_349 rfl (by decide) ?_
              subst cq27
              exact ⟨congrArg (fun z => some (Value.int (iI z))) (show (0 : Int) = cmB 8 f (mw S 85) by rw [show cmB 8 f (mw S 85) = (if f / 10 % 10 = 0 ∧ f % 10 < 3 ∧ (0 ≤ f / 100 ∧ f / 100 ≤ mw S 85 0 - 1) ∧ mw S 85 (38 + f / 100) = (if f % 10 = 2 then -1 else f % 10) then 1 else 0) from rfl]; (repeat' split) <;> omega), (rfl), f8_r⟩
            · refine g_iconst (q := 345) B dX8_command_344 rfl ?_
              refine g_goto (q := 349) B dX8_command_345 (by decide) ?_
              refine g_zret B E dX8_command_349 rfl (by decide) ?_
              subst cq27
              exact ⟨congrArg (fun z => some (Value.int (iI z))) (show (1 : Int) = cmB 8 f (mw S 85) by rw [show cmB 8 f (mw S 85) = (if f / 10 % 10 = 0 ∧ f % 10 < 3 ∧ (0 ≤ f / 100 ∧ f / 100 ≤ mw S 85 0 - 1) ∧ mw S 85 (38 + f / 100) = (if f % 10 = 2 then -1 else f % 10) then 1 else 0) from rfl]; (repeat' split) <;> omega), (rfl), f8_r⟩
  · refine g_tsIn (q := 350) B 9 dX8_command_27 cq27 ⟨by decide, by decide, by decide, by decide⟩ rfl (by decide) ?_
    refine g_iload_n (q := 351) B dX8_command_350 rfl 6 rfl ?_
    refine g_sipush (q := 354) B dX8_command_351 rfl (by decide) ?_
    refine g_idiv (q := 355) B dX8_command_354 rfl (by omega) (by omega) (by omega) (by omega) ?_
    refine g_iconst (q := 356) B dX8_command_355 rfl ?_
    refine g_icmp_ge (t := 398) (q := 359) B dX8_command_356 (by decide) rfl ⟨by omega, by omega⟩ ⟨by omega, by omega⟩ (fun cq356 => ?_) (fun cq356 => ?_)
    · refine g_iconst (q := 399) B dX8_command_398 rfl ?_
      refine g_zret B E dX8_command_399 rfl (by decide) ?_
      subst cq27
      exact ⟨congrArg (fun z => some (Value.int (iI z))) (show (0 : Int) = cmB 9 f (mw S 85) by rw [show cmB 9 f (mw S 85) = (if f / 1000 < 2 ∧ f / 100 % 10 < 4 ∧ f % 100 ≤ hasF (mw S 85) (f / 1000) (f / 100 % 10) then 1 else 0) from rfl]; (repeat' split) <;> omega), (rfl), f8_r⟩
    · refine g_iload_n (q := 360) B dX8_command_359 rfl 6 rfl ?_
      refine g_bipush (q := 362) B dX8_command_360 rfl (by decide) ?_
      refine g_idiv (q := 363) B dX8_command_362 rfl (by omega) (by omega) (by omega) (by omega) ?_
      refine g_bipush (q := 365) B dX8_command_363 rfl (by decide) ?_
      refine g_irem (q := 366) B dX8_command_365 rfl (by omega) (by omega) (by omega) (by omega) ?_
      refine g_iconst (q := 367) B dX8_command_366 rfl ?_
      refine g_icmp_ge (t := 398) (q := 370) B dX8_command_367 (by decide) rfl ⟨by omega, by omega⟩ ⟨by omega, by omega⟩ (fun cq367 => ?_) (fun cq367 => ?_)
      · refine g_iconst (q := 399) B dX8_command_398 rfl ?_
        refine g_zret B E dX8_command_399 rfl (by decide) ?_
        subst cq27
        exact ⟨congrArg (fun z => some (Value.int (iI z))) (show (0 : Int) = cmB 9 f (mw S 85) by rw [show cmB 9 f (mw S 85) = (if f / 1000 < 2 ∧ f / 100 % 10 < 4 ∧ f % 100 ≤ hasF (mw S 85) (f / 1000) (f / 100 % 10) then 1 else 0) from rfl]; (repeat' split) <;> omega), (rfl), f8_r⟩
      · refine g_aload_n (q := 371) B dX8_command_370 rfl 4 rfl ?_
        refine g_get (n := 82) (ty := tyX8) (q := 374) (v := .ref (yA Y 85)) B dX8_command_371 rfl rfl rfl cls6 4 (by decide) w955 rfl ?_
        refine g_iload_n (q := 375) B dX8_command_374 rfl 6 rfl ?_
        refine g_sipush (q := 378) B dX8_command_375 rfl (by decide) ?_
        refine g_idiv (q := 379) B dX8_command_378 rfl (by omega) (by omega) (by omega) (by omega) ?_
        refine g_iload_n (q := 380) B dX8_command_379 rfl 6 rfl ?_
        refine g_bipush (q := 382) B dX8_command_380 rfl (by decide) ?_
        refine g_idiv (q := 383) B dX8_command_382 rfl (by omega) (by omega) (by omega) (by omega) ?_
        refine g_bipush (q := 385) B dX8_command_383 rfl (by decide) ?_
        refine g_irem (q := 386) B dX8_command_385 rfl (by omega) (by omega) (by omega) (by omega) ?_
        refine g_callS (q := 389) (As := [.ref (yA Y 85), .int (iI (f / 1000)), .int (iI ((f / 100) % 10))]) (st := []) B dX8_command_386 rfl (c_X8_hasOf (l := xL X) (S := S) (Or.inr rfl) hw (f / 1000) ((f / 100) % 10) ⟨by omega, by omega⟩ ⟨by omega, by omega⟩) eX8_hasOf w1074 (by decide) rfl rfl (Nat.le_of_ble_eq_true rfl) (g_kE ?_)
        have := hasF_in hw (f / 1000) ((f / 100) % 10)
        refine g_iload (q := 391) B dX8_command_389 rfl 0 rfl ?_
        refine g_icmp_lt (t := 398) (q := 394) B dX8_command_391 (by decide) rfl ⟨by omega, by omega⟩ ⟨by omega, by omega⟩ (fun cq391 => ?_) (fun cq391 => ?_)
        · refine g_iconst (q := 399) B dX8_command_398 rfl ?_
          refine g_zret B E dX8_command_399 rfl (by decide) ?_
          subst cq27
          exact ⟨congrArg (fun z => some (Value.int (iI z))) (show (0 : Int) = cmB 9 f (mw S 85) by rw [show cmB 9 f (mw S 85) = (if f / 1000 < 2 ∧ f / 100 % 10 < 4 ∧ f % 100 ≤ hasF (mw S 85) (f / 1000) (f / 100 % 10) then 1 else 0) from rfl]; (repeat' split) <;> omega), (rfl), f8_r⟩
        · refine g_iconst (q := 395) B dX8_command_394 rfl ?_
          refine g_goto (q := 399) B dX8_command_395 (by decide) ?_
          refine g_zret B E dX8_command_399 rfl (by decide) ?_
          subst cq27
          exact ⟨congrArg (fun z => some (Value.int (iI z))) (show (1 : Int) = cmB 9 f (mw S 85) by rw [show cmB 9 f (mw S 85) = (if f / 1000 < 2 ∧ f / 100 % 10 < 4 ∧ f % 100 ≤ hasF (mw S 85) (f / 1000) (f / 100 % 10) then 1 else 0) from rfl]; (repeat' split) <;> omega), (rfl), f8_r⟩
  · refine g_tsOut (q := 400) B dX8_command_27 (by omega) ⟨by omega, by omega⟩ (by decide) ?_
    refine g_iconst (q := 401) B dX8_command_400 rfl ?_
    refine g_zret B E dX8_command_401 rfl (by decide) ?_
    exact ⟨congrArg (fun z => some (Value.int (iI z))) (show (0 : Int) = cmB h f (mw S 85) by unfold cmB; (repeat' split) <;> omega), (by unfold cmG; (repeat' split) <;> first | omega | rfl), f8_r⟩
