set_option maxHeartbeats 4000000 in
theorem c_X8_turnRing {Y : gY} {l : Launch} {S : SS} {n : Nat} (hm : isM n) (hw : wf (mw S n)) (h q : Int) (hh : 0 ≤ h ∧ h < 16) (hq0 : 0 ≤ q ∧ q < 134217728) : gM Y l mX8_turnRing S [.ref (yA Y n), .int (iI h), .int (iI q)] (p0 (fun S' => mw S' n = trR (mw S n) h q ∧ fm S S' n)) := by
  refine gM_of (by decide) (Nat.le_of_ble_eq_true rfl) ?_
  intro X hXl B E
  obtain ⟨⟨hn0, hn16⟩, ⟨hb0, hb1⟩, ⟨hm0, hm1⟩, ⟨hs0, hs1⟩, ⟨hc0, hc1⟩, hct, hkw, how⟩ := wfT hw
  have m0 : mw S n 0 = S n 0 := rfl
  show gW Y X S 0 [(0, .ref (yA Y n)), (1, .int (iI h)), (2, .int (iI q))] []
  refine g_iload_n (q := 1) B dX8_turnRing_0 rfl 1 rfl ?_
  refine g_iconst (q := 2) B dX8_turnRing_1 rfl ?_
  refine g_icmp_ge (t := 32) (q := 5) B dX8_turnRing_2 (by decide) rfl ⟨by omega, by omega⟩ ⟨by omega, by omega⟩ (fun cq2 => ?_) (fun cq2 => ?_)
  · refine g_iload_n (q := 33) B dX8_turnRing_32 rfl 1 rfl ?_
    refine g_bipush (q := 35) B dX8_turnRing_33 rfl (by decide) ?_
    refine g_icmp_ne (t := 70) (q := 38) B dX8_turnRing_35 (by decide) rfl ⟨by omega, by omega⟩ ⟨by omega, by omega⟩ (fun cq35 => ?_) (fun cq35 => ?_)
    · refine g_iload_n (q := 71) B dX8_turnRing_70 rfl 1 rfl ?_
      refine g_bipush (q := 73) B dX8_turnRing_71 rfl (by decide) ?_
      refine g_icmp_ne (t := 120) (q := 76) B dX8_turnRing_73 (by decide) rfl ⟨by omega, by omega⟩ ⟨by omega, by omega⟩ (fun cq73 => ?_) (fun cq73 => ?_)
      · refine g_iload_n (q := 121) B dX8_turnRing_120 rfl 2 rfl ?_
        refine g_iconst (q := 122) B dX8_turnRing_121 rfl ?_
        refine g_idiv (q := 123) B dX8_turnRing_122 rfl (by omega) (by omega) (by omega) (by omega) ?_
        refine g_iconst (q := 124) B dX8_turnRing_123 rfl ?_
        refine g_irem (q := 125) B dX8_turnRing_124 rfl (by omega) (by omega) (by omega) (by omega) ?_
        refine g_if_ne (t := 137) (q := 128) B dX8_turnRing_125 (by decide) rfl ⟨by omega, by omega⟩ (fun cq125 => ?_) (fun cq125 => ?_)
        · refine g_aload_n (q := 138) B dX8_turnRing_137 rfl 0 rfl ?_
          refine g_callS (q := 141) (As := [.ref (yA Y n)]) (st := []) B dX8_turnRing_138 rfl (c_X8_roundOn (l := xL X) (S := S) hm hw  ) eX8_roundOn w1095 (by decide) rfl rfl (Nat.le_of_ble_eq_true rfl) (g_kV (fun Sy hSy => ?_))
          obtain ⟨hvSy, hfSy⟩ := hSy
          refine g_pop (q := 142) B dX8_turnRing_141 rfl rfl ?_
          refine g_vret B E dX8_turnRing_142 ?_
          refine ⟨rfl, ?_, hfSy⟩
          rw [hvSy]
          unfold trR
          (repeat' split) <;> first | omega | ((first | unfold addG | unfold brkG | unfold swapG | unfold setG); (repeat' split) <;> first | rfl | omega) | rfl
        · refine g_aload_n (q := 129) B dX8_turnRing_128 rfl 0 rfl ?_
          refine g_iconst (q := 130) B dX8_turnRing_129 rfl ?_
          refine g_iload_n (q := 131) B dX8_turnRing_130 rfl 2 rfl ?_
          refine g_iconst (q := 132) B dX8_turnRing_131 rfl ?_
          refine g_irem (q := 133) B dX8_turnRing_132 rfl (by omega) (by omega) (by omega) (by omega) ?_
          refine g_iast (n := n) (q := 134) B dX8_turnRing_133 rfl rfl (fun g => cw_M hm g) (by decide) (by omega) (by omega) ?_
          refine g_goto (q := 142) B dX8_turnRing_134 (by decide) ?_
          refine g_vret B E dX8_turnRing_142 ?_
          refine ⟨rfl, ?_, fm_us⟩
          rw [(mw_us S n (by decide) (by decide))]
          unfold trR
          (repeat' split) <;> first | omega | ((first | unfold addG | unfold brkG | unfold swapG | unfold setG); (repeat' split) <;> first | rfl | omega) | rfl
      · refine g_aload_n (q := 77) B dX8_turnRing_76 rfl 0 rfl ?_
        refine g_iload_n (q := 78) B dX8_turnRing_77 rfl 2 rfl ?_
        refine g_bipush (q := 80) B dX8_turnRing_78 rfl (by decide) ?_
        refine g_irem (q := 81) B dX8_turnRing_80 rfl (by omega) (by omega) (by omega) (by omega) ?_
        refine g_callS (q := 84) (As := [.ref (yA Y n), .int (iI (q % 16))]) (st := []) B dX8_turnRing_81 rfl (c_X8_isJewel (l := xL X) (S := S) hm (wf.b hw) (q % 16) ⟨by omega, by omega⟩) eX8_isJewel w1041 (by decide) rfl rfl (Nat.le_of_ble_eq_true rfl) (g_kE ?_)
        refine g_ifb_eq (t := 142) (q := 87) B dX8_turnRing_84 (by decide) rfl (fun cq84 => ?_) (fun cq84 => ?_)
        · refine g_vret B E dX8_turnRing_142 ?_
          refine ⟨rfl, ?_, fm.rf⟩
          unfold trR
          (repeat' split) <;> first | omega | ((first | unfold addG | unfold brkG | unfold swapG | unfold setG); (repeat' split) <;> first | rfl | omega) | rfl
        · refine g_aload_n (q := 88) B dX8_turnRing_87 rfl 0 rfl ?_
          refine g_iload_n (q := 89) B dX8_turnRing_88 rfl 2 rfl ?_
          refine g_bipush (q := 91) B dX8_turnRing_89 rfl (by decide) ?_
          refine g_idiv (q := 92) B dX8_turnRing_91 rfl (by omega) (by omega) (by omega) (by omega) ?_
          refine g_bipush (q := 94) B dX8_turnRing_92 rfl (by decide) ?_
          refine g_irem (q := 95) B dX8_turnRing_94 rfl (by omega) (by omega) (by omega) (by omega) ?_
          refine g_callS (q := 98) (As := [.ref (yA Y n), .int (iI ((q / 64) % 16))]) (st := []) B dX8_turnRing_95 rfl (c_X8_isJewel (l := xL X) (S := S) hm (wf.b hw) ((q / 64) % 16) ⟨by omega, by omega⟩) eX8_isJewel w1041 (by decide) rfl rfl (Nat.le_of_ble_eq_true rfl) (g_kE ?_)
          refine g_ifb_eq (t := 142) (q := 101) B dX8_turnRing_98 (by decide) rfl (fun cq98 => ?_) (fun cq98 => ?_)
          · refine g_vret B E dX8_turnRing_142 ?_
            refine ⟨rfl, ?_, fm.rf⟩
            unfold trR
            (repeat' split) <;> first | omega | ((first | unfold addG | unfold brkG | unfold swapG | unfold setG); (repeat' split) <;> first | rfl | omega) | rfl
          · refine g_aload_n (q := 102) B dX8_turnRing_101 rfl 0 rfl ?_
            refine g_iload_n (q := 103) B dX8_turnRing_102 rfl 2 rfl ?_
            refine g_bipush (q := 105) B dX8_turnRing_103 rfl (by decide) ?_
            refine g_irem (q := 106) B dX8_turnRing_105 rfl (by omega) (by omega) (by omega) (by omega) ?_
            refine g_iload_n (q := 107) B dX8_turnRing_106 rfl 2 rfl ?_
            refine g_bipush (q := 109) B dX8_turnRing_107 rfl (by decide) ?_
            refine g_idiv (q := 110) B dX8_turnRing_109 rfl (by omega) (by omega) (by omega) (by omega) ?_
            refine g_bipush (q := 112) B dX8_turnRing_110 rfl (by decide) ?_
            refine g_irem (q := 113) B dX8_turnRing_112 rfl (by omega) (by omega) (by omega) (by omega) ?_
            refine g_callS (q := 116) (As := [.ref (yA Y n), .int (iI (q % 16)), .int (iI ((q / 64) % 16))]) (st := []) B dX8_turnRing_113 rfl (c_X8_exchangeOn (l := xL X) (S := S) hm hw (q % 16) ((q / 64) % 16) (by omega) (by omega) (by omega) (by omega)) eX8_exchangeOn w1098 (by decide) rfl rfl (Nat.le_of_ble_eq_true rfl) (g_kV (fun Sy hSy => ?_))
            obtain ⟨hvSy, hfSy⟩ := hSy
            refine g_pop (q := 117) B dX8_turnRing_116 rfl rfl ?_
            refine g_goto (q := 142) B dX8_turnRing_117 (by decide) ?_
            refine g_vret B E dX8_turnRing_142 ?_
            refine ⟨rfl, ?_, hfSy⟩
            rw [hvSy]
            unfold trR
            (repeat' split) <;> first | omega | ((first | unfold addG | unfold brkG | unfold swapG | unfold setG); (repeat' split) <;> first | rfl | omega) | rfl
    · refine g_iload_n (q := 39) B dX8_turnRing_38 rfl 2 rfl ?_
      refine g_bipush (q := 41) B dX8_turnRing_39 rfl (by decide) ?_
      refine g_idiv (q := 42) B dX8_turnRing_41 rfl (by omega) (by omega) (by omega) (by omega) ?_
      refine g_iconst (q := 43) B dX8_turnRing_42 rfl ?_
      refine g_irem (q := 44) B dX8_turnRing_43 rfl (by omega) (by omega) (by omega) (by omega) ?_
      refine g_if_ne (t := 70) (q := 47) B dX8_turnRing_44 (by decide) rfl ⟨by omega, by omega⟩ (fun cq44 => ?_) (fun cq44 => ?_)
      · refine g_iload_n (q := 71) B dX8_turnRing_70 rfl 1 rfl ?_
        refine g_bipush (q := 73) B dX8_turnRing_71 rfl (by decide) ?_
        refine g_icmp_ne (t := 120) (q := 76) B dX8_turnRing_73 (by decide) rfl ⟨by omega, by omega⟩ ⟨by omega, by omega⟩ (fun cq73 => ?_) (fun cq73 => ?_)
        · refine g_iload_n (q := 121) B dX8_turnRing_120 rfl 2 rfl ?_
          refine g_iconst (q := 122) B dX8_turnRing_121 rfl ?_
          refine g_idiv (q := 123) B dX8_turnRing_122 rfl (by omega) (by omega) (by omega) (by omega) ?_
          refine g_iconst (q := 124) B dX8_turnRing_123 rfl ?_
          refine g_irem (q := 125) B dX8_turnRing_124 rfl (by omega) (by omega) (by omega) (by omega) ?_
          refine g_if_ne (t := 137) (q := 128) B dX8_turnRing_125 (by decide) rfl ⟨by omega, by omega⟩ (fun cq125 => ?_) (fun cq125 => ?_)
          · refine g_aload_n (q := 138) B dX8_turnRing_137 rfl 0 rfl ?_
            refine g_callS (q := 141) (As := [.ref (yA Y n)]) (st := []) B dX8_turnRing_138 rfl (c_X8_roundOn (l := xL X) (S := S) hm hw  ) eX8_roundOn w1095 (by decide) rfl rfl (Nat.le_of_ble_eq_true rfl) (g_kV (fun Sy hSy => ?_))
            obtain ⟨hvSy, hfSy⟩ := hSy
            refine g_pop (q := 142) B dX8_turnRing_141 rfl rfl ?_
            refine g_vret B E dX8_turnRing_142 ?_
            refine ⟨rfl, ?_, hfSy⟩
            rw [hvSy]
            unfold trR
            (repeat' split) <;> first | omega | ((first | unfold addG | unfold brkG | unfold swapG | unfold setG); (repeat' split) <;> first | rfl | omega) | rfl
          · refine g_aload_n (q := 129) B dX8_turnRing_128 rfl 0 rfl ?_
            refine g_iconst (q := 130) B dX8_turnRing_129 rfl ?_
            refine g_iload_n (q := 131) B dX8_turnRing_130 rfl 2 rfl ?_
            refine g_iconst (q := 132) B dX8_turnRing_131 rfl ?_
            refine g_irem (q := 133) B dX8_turnRing_132 rfl (by omega) (by omega) (by omega) (by omega) ?_
            refine g_iast (n := n) (q := 134) B dX8_turnRing_133 rfl rfl (fun g => cw_M hm g) (by decide) (by omega) (by omega) ?_
            refine g_goto (q := 142) B dX8_turnRing_134 (by decide) ?_
            refine g_vret B E dX8_turnRing_142 ?_
            refine ⟨rfl, ?_, fm_us⟩
            rw [(mw_us S n (by decide) (by decide))]
            unfold trR
            (repeat' split) <;> first | omega | ((first | unfold addG | unfold brkG | unfold swapG | unfold setG); (repeat' split) <;> first | rfl | omega) | rfl
        · refine g_aload_n (q := 77) B dX8_turnRing_76 rfl 0 rfl ?_
          refine g_iload_n (q := 78) B dX8_turnRing_77 rfl 2 rfl ?_
          refine g_bipush (q := 80) B dX8_turnRing_78 rfl (by decide) ?_
          refine g_irem (q := 81) B dX8_turnRing_80 rfl (by omega) (by omega) (by omega) (by omega) ?_
          refine g_callS (q := 84) (As := [.ref (yA Y n), .int (iI (q % 16))]) (st := []) B dX8_turnRing_81 rfl (c_X8_isJewel (l := xL X) (S := S) hm (wf.b hw) (q % 16) ⟨by omega, by omega⟩) eX8_isJewel w1041 (by decide) rfl rfl (Nat.le_of_ble_eq_true rfl) (g_kE ?_)
          refine g_ifb_eq (t := 142) (q := 87) B dX8_turnRing_84 (by decide) rfl (fun cq84 => ?_) (fun cq84 => ?_)
          · refine g_vret B E dX8_turnRing_142 ?_
            refine ⟨rfl, ?_, fm.rf⟩
            unfold trR
            (repeat' split) <;> first | omega | ((first | unfold addG | unfold brkG | unfold swapG | unfold setG); (repeat' split) <;> first | rfl | omega) | rfl
          · refine g_aload_n (q := 88) B dX8_turnRing_87 rfl 0 rfl ?_
            refine g_iload_n (q := 89) B dX8_turnRing_88 rfl 2 rfl ?_
            refine g_bipush (q := 91) B dX8_turnRing_89 rfl (by decide) ?_
            refine g_idiv (q := 92) B dX8_turnRing_91 rfl (by omega) (by omega) (by omega) (by omega) ?_
            refine g_bipush (q := 94) B dX8_turnRing_92 rfl (by decide) ?_
            refine g_irem (q := 95) B dX8_turnRing_94 rfl (by omega) (by omega) (by omega) (by omega) ?_
            refine g_callS (q := 98) (As := [.ref (yA Y n), .int (iI ((q / 64) % 16))]) (st := []) B dX8_turnRing_95 rfl (c_X8_isJewel (l := xL X) (S := S) hm (wf.b hw) ((q / 64) % 16) ⟨by omega, by omega⟩) eX8_isJewel w1041 (by decide) rfl rfl (Nat.le_of_ble_eq_true rfl) (g_kE ?_)
            refine g_ifb_eq (t := 142) (q := 101) B dX8_turnRing_98 (by decide) rfl (fun cq98 => ?_) (fun cq98 => ?_)
            · refine g_vret B E dX8_turnRing_142 ?_
              refine ⟨rfl, ?_, fm.rf⟩
              unfold trR
              (repeat' split) <;> first | omega | ((first | unfold addG | unfold brkG | unfold swapG | unfold setG); (repeat' split) <;> first | rfl | omega) | rfl
            · refine g_aload_n (q := 102) B dX8_turnRing_101 rfl 0 rfl ?_
              refine g_iload_n (q := 103) B dX8_turnRing_102 rfl 2 rfl ?_
              refine g_bipush (q := 105) B dX8_turnRing_103 rfl (by decide) ?_
              refine g_irem (q := 106) B dX8_turnRing_105 rfl (by omega) (by omega) (by omega) (by omega) ?_
              refine g_iload_n (q := 107) B dX8_turnRing_106 rfl 2 rfl ?_
              refine g_bipush (q := 109) B dX8_turnRing_107 rfl (by decide) ?_
              refine g_idiv (q := 110) B dX8_turnRing_109 rfl (by omega) (by omega) (by omega) (by omega) ?_
              refine g_bipush (q := 112) B dX8_turnRing_110 rfl (by decide) ?_
              refine g_irem (q := 113) B dX8_turnRing_112 rfl (by omega) (by omega) (by omega) (by omega) ?_
              refine g_callS (q := 116) (As := [.ref (yA Y n), .int (iI (q % 16)), .int (iI ((q / 64) % 16))]) (st := []) B dX8_turnRing_113 rfl (c_X8_exchangeOn (l := xL X) (S := S) hm hw (q % 16) ((q / 64) % 16) (by omega) (by omega) (by omega) (by omega)) eX8_exchangeOn w1098 (by decide) rfl rfl (Nat.le_of_ble_eq_true rfl) (g_kV (fun Sy hSy => ?_))
              obtain ⟨hvSy, hfSy⟩ := hSy
              refine g_pop (q := 117) B dX8_turnRing_116 rfl rfl ?_
              refine g_goto (q := 142) B dX8_turnRing_117 (by decide) ?_
              refine g_vret B E dX8_turnRing_142 ?_
              refine ⟨rfl, ?_, hfSy⟩
              rw [hvSy]
              unfold trR
              (repeat' split) <;> first | omega | ((first | unfold addG | unfold brkG | unfold swapG | unfold setG); (repeat' split) <;> first | rfl | omega) | rfl
      · refine g_aload_n (q := 48) B dX8_turnRing_47 rfl 0 rfl ?_
        refine g_iload_n (q := 49) B dX8_turnRing_48 rfl 2 rfl ?_
        refine g_bipush (q := 51) B dX8_turnRing_49 rfl (by decide) ?_
        refine g_irem (q := 52) B dX8_turnRing_51 rfl (by omega) (by omega) (by omega) (by omega) ?_
        refine g_callS (q := 55) (As := [.ref (yA Y n), .int (iI (q % 16))]) (st := []) B dX8_turnRing_52 rfl (c_X8_isJewel (l := xL X) (S := S) hm (wf.b hw) (q % 16) ⟨by omega, by omega⟩) eX8_isJewel w1041 (by decide) rfl rfl (Nat.le_of_ble_eq_true rfl) (g_kE ?_)
        refine g_ifb_eq (t := 142) (q := 58) B dX8_turnRing_55 (by decide) rfl (fun cq55 => ?_) (fun cq55 => ?_)
        · refine g_vret B E dX8_turnRing_142 ?_
          refine ⟨rfl, ?_, fm.rf⟩
          unfold trR
          (repeat' split) <;> first | omega | ((first | unfold addG | unfold brkG | unfold swapG | unfold setG); (repeat' split) <;> first | rfl | omega) | rfl
        · refine g_aload_n (q := 59) B dX8_turnRing_58 rfl 0 rfl ?_
          refine g_iload_n (q := 60) B dX8_turnRing_59 rfl 2 rfl ?_
          refine g_bipush (q := 62) B dX8_turnRing_60 rfl (by decide) ?_
          refine g_irem (q := 63) B dX8_turnRing_62 rfl (by omega) (by omega) (by omega) (by omega) ?_
          refine g_callS (q := 66) (As := [.ref (yA Y n), .int (iI (q % 16))]) (st := []) B dX8_turnRing_63 rfl (c_X8_breakOn (l := xL X) (S := S) hm hw (q % 16) (by omega) (by omega)) eX8_breakOn w1044 (by decide) rfl rfl (Nat.le_of_ble_eq_true rfl) (g_kV (fun Sy hSy => ?_))
          obtain ⟨hvSy, hfSy⟩ := hSy
          refine g_pop (q := 67) B dX8_turnRing_66 rfl rfl ?_
          refine g_goto (q := 142) B dX8_turnRing_67 (by decide) ?_
          refine g_vret B E dX8_turnRing_142 ?_
          refine ⟨rfl, ?_, hfSy⟩
          rw [hvSy]
          unfold trR
          (repeat' split) <;> first | omega | ((first | unfold addG | unfold brkG | unfold swapG | unfold setG); (repeat' split) <;> first | rfl | omega) | rfl
  · refine g_aload_n (q := 6) B dX8_turnRing_5 rfl 0 rfl ?_
    refine g_iconst (q := 7) B dX8_turnRing_6 rfl ?_
    refine g_iald (n := n) (q := 8) B dX8_turnRing_7 rfl rfl (cw_M hm (S n)) (by decide) (by omega) (by omega) ?_
    refine g_bipush (q := 10) B dX8_turnRing_8 rfl (by decide) ?_
    refine g_icmp_ge (t := 142) (q := 13) B dX8_turnRing_10 (by decide) rfl ⟨by omega, by omega⟩ ⟨by omega, by omega⟩ (fun cq10 => ?_) (fun cq10 => ?_)
    · refine g_vret B E dX8_turnRing_142 ?_
      refine ⟨rfl, ?_, fm.rf⟩
      unfold trR
      (repeat' split) <;> first | omega | ((first | unfold addG | unfold brkG | unfold swapG | unfold setG); (repeat' split) <;> first | rfl | omega) | rfl
    · refine g_aload_n (q := 14) B dX8_turnRing_13 rfl 0 rfl ?_
      refine g_iload_n (q := 15) B dX8_turnRing_14 rfl 2 rfl ?_
      refine g_iconst (q := 16) B dX8_turnRing_15 rfl ?_
      refine g_irem (q := 17) B dX8_turnRing_16 rfl (by omega) (by omega) (by omega) (by omega) ?_
      refine g_iconst (q := 18) B dX8_turnRing_17 rfl ?_
      refine g_iload_n (q := 19) B dX8_turnRing_18 rfl 2 rfl ?_
      refine g_iconst (q := 20) B dX8_turnRing_19 rfl ?_
      refine g_idiv (q := 21) B dX8_turnRing_20 rfl (by omega) (by omega) (by omega) (by omega) ?_
      refine g_bipush (q := 23) B dX8_turnRing_21 rfl (by decide) ?_
      refine g_irem (q := 24) B dX8_turnRing_23 rfl (by omega) (by omega) (by omega) (by omega) ?_
      refine g_iadd (q := 25) B dX8_turnRing_24 rfl ?_
      refine g_callS (q := 28) (As := [.ref (yA Y n), .int (iI (q % 4)), .int (iI (1 + ((q / 4) % 9)))]) (st := []) B dX8_turnRing_25 rfl (c_X8_jewelOn (l := xL X) (S := S) hm hw (q % 4) (1 + ((q / 4) % 9)) (by omega)) eX8_jewelOn w1034 (by decide) rfl rfl (Nat.le_of_ble_eq_true rfl) (g_kV (fun Sy hSy => ?_))
      obtain ⟨hvSy, hfSy⟩ := hSy
      refine g_pop (q := 29) B dX8_turnRing_28 rfl rfl ?_
      refine g_goto (q := 142) B dX8_turnRing_29 (by decide) ?_
      refine g_vret B E dX8_turnRing_142 ?_
      refine ⟨rfl, ?_, hfSy⟩
      rw [hvSy]
      unfold trR
      (repeat' split) <;> first | omega | ((first | unfold addG | unfold brkG | unfold swapG | unfold setG); (repeat' split) <;> first | rfl | omega) | rfl
set_option maxHeartbeats 4000000 in
theorem c_X8_turnRuns {Y : gY} {l : Launch} {S : SS} {n : Nat} (hm : isM n) (hw : wf (mw S n)) (h q : Int) (hh : 0 ≤ h ∧ h < 16) (hq0 : 0 ≤ q ∧ q < 134217728) : gM Y l mX8_turnRuns S [.ref (yA Y n), .int (iI h), .int (iI q)] (p0 (fun S' => mw S' n = trU (mw S n) h q ∧ fm S S' n)) := by
  refine gM_of (by decide) (Nat.le_of_ble_eq_true rfl) ?_
  intro X hXl B E
  obtain ⟨⟨hn0, hn16⟩, ⟨hb0, hb1⟩, ⟨hm0, hm1⟩, ⟨hs0, hs1⟩, ⟨hc0, hc1⟩, hct, hkw, how⟩ := wfT hw
  have m0 : mw S n 0 = S n 0 := rfl
  show gW Y X S 0 [(0, .ref (yA Y n)), (1, .int (iI h)), (2, .int (iI q))] []
  refine g_iload_n (q := 1) B dX8_turnRuns_0 rfl 1 rfl ?_
  refine g_bipush (q := 3) B dX8_turnRuns_1 rfl (by decide) ?_
  refine g_icmp_ge (t := 47) (q := 6) B dX8_turnRuns_3 (by decide) rfl ⟨by omega, by omega⟩ ⟨by omega, by omega⟩ (fun cq3 => ?_) (fun cq3 => ?_)
  · refine g_iload_n (q := 48) B dX8_turnRuns_47 rfl 1 rfl ?_
    refine g_bipush (q := 50) B dX8_turnRuns_48 rfl (by decide) ?_
    refine g_icmp_ne (t := 64) (q := 53) B dX8_turnRuns_50 (by decide) rfl ⟨by omega, by omega⟩ ⟨by omega, by omega⟩ (fun cq50 => ?_) (fun cq50 => ?_)
    · refine g_aload_n (q := 65) B dX8_turnRuns_64 rfl 0 rfl ?_
      refine g_iload_n (q := 66) B dX8_turnRuns_65 rfl 2 rfl ?_
      refine g_bipush (q := 68) B dX8_turnRuns_66 rfl (by decide) ?_
      refine g_irem (q := 69) B dX8_turnRuns_68 rfl (by omega) (by omega) (by omega) (by omega) ?_
      refine g_callS (q := 72) (As := [.ref (yA Y n), .int (iI (q % 16))]) (st := []) B dX8_turnRuns_69 rfl (c_X8_isRun (l := xL X) (S := S) hm (wf.b hw) (q % 16) ⟨by omega, by omega⟩) eX8_isRun w1065 (by decide) rfl rfl (Nat.le_of_ble_eq_true rfl) (g_kE ?_)
      have := runsF_in (mw S n)
      refine g_ifb_eq (t := 110) (q := 75) B dX8_turnRuns_72 (by decide) rfl (fun cq72 => ?_) (fun cq72 => ?_)
      · refine g_vret B E dX8_turnRuns_110 ?_
        refine ⟨rfl, ?_, fm.rf⟩
        unfold trU
        (repeat' split) <;> first | omega | ((first | unfold cutG | unfold dealG | unfold giveG); (repeat' split) <;> first | rfl | omega) | rfl
      · refine g_iload_n (q := 76) B dX8_turnRuns_75 rfl 1 rfl ?_
        refine g_bipush (q := 78) B dX8_turnRuns_76 rfl (by decide) ?_
        refine g_icmp_ge (t := 101) (q := 81) B dX8_turnRuns_78 (by decide) rfl ⟨by omega, by omega⟩ ⟨by omega, by omega⟩ (fun cq78 => ?_) (fun cq78 => ?_)
        · refine g_aload_n (q := 102) B dX8_turnRuns_101 rfl 0 rfl ?_
          refine g_iload_n (q := 103) B dX8_turnRuns_102 rfl 2 rfl ?_
          refine g_bipush (q := 105) B dX8_turnRuns_103 rfl (by decide) ?_
          refine g_irem (q := 106) B dX8_turnRuns_105 rfl (by omega) (by omega) (by omega) (by omega) ?_
          refine g_callS (q := 109) (As := [.ref (yA Y n), .int (iI (q % 16))]) (st := []) B dX8_turnRuns_106 rfl (c_X8_takeOn (l := xL X) (S := S) hm hw (q % 16) (by omega) (by omega)) eX8_takeOn w1089 (by decide) rfl rfl (Nat.le_of_ble_eq_true rfl) (g_kV (fun Sy hSy => ?_))
          obtain ⟨hvSy, hfSy⟩ := hSy
          have := whyF_in (mw S n) (q % 16)
          refine g_pop (q := 110) B dX8_turnRuns_109 rfl rfl ?_
          refine g_vret B E dX8_turnRuns_110 ?_
          refine ⟨rfl, ?_, hfSy⟩
          rw [hvSy]
          unfold trU
          (repeat' split) <;> first | omega | ((first | unfold cutG | unfold dealG | unfold giveG); (repeat' split) <;> first | rfl | omega) | rfl
        · refine g_aload_n (q := 82) B dX8_turnRuns_81 rfl 0 rfl ?_
          refine g_iload_n (q := 83) B dX8_turnRuns_82 rfl 2 rfl ?_
          refine g_bipush (q := 85) B dX8_turnRuns_83 rfl (by decide) ?_
          refine g_irem (q := 86) B dX8_turnRuns_85 rfl (by omega) (by omega) (by omega) (by omega) ?_
          refine g_iload_n (q := 87) B dX8_turnRuns_86 rfl 2 rfl ?_
          refine g_bipush (q := 89) B dX8_turnRuns_87 rfl (by decide) ?_
          refine g_idiv (q := 90) B dX8_turnRuns_89 rfl (by omega) (by omega) (by omega) (by omega) ?_
          refine g_iconst (q := 91) B dX8_turnRuns_90 rfl ?_
          refine g_irem (q := 92) B dX8_turnRuns_91 rfl (by omega) (by omega) (by omega) (by omega) ?_
          refine g_iconst (q := 93) B dX8_turnRuns_92 rfl ?_
          refine g_isub (q := 94) B dX8_turnRuns_93 rfl ?_
          refine g_callS (q := 97) (As := [.ref (yA Y n), .int (iI (q % 16)), .int (iI (((q / 16) % 3) - 1))]) (st := []) B dX8_turnRuns_94 rfl (c_X8_giveOn (l := xL X) (S := S) hm hw (q % 16) (((q / 16) % 3) - 1) ⟨by omega, by omega⟩ ⟨by omega, by omega⟩) eX8_giveOn w1068 (by decide) rfl rfl (Nat.le_of_ble_eq_true rfl) (g_kV (fun Sy hSy => ?_))
          obtain ⟨hvSy, hfSy⟩ := hSy
          have := gapF_in (wf_give hw (q % 16) (o := (((q / 16) % 3) - 1)) (by omega))
          refine g_pop (q := 98) B dX8_turnRuns_97 rfl rfl ?_
          refine g_goto (q := 110) B dX8_turnRuns_98 (by decide) ?_
          refine g_vret B E dX8_turnRuns_110 ?_
          refine ⟨rfl, ?_, hfSy⟩
          rw [hvSy]
          unfold trU
          (repeat' split) <;> first | omega | ((first | unfold cutG | unfold dealG | unfold giveG); (repeat' split) <;> first | rfl | omega) | rfl
    · refine g_aload_n (q := 54) B dX8_turnRuns_53 rfl 0 rfl ?_
      refine g_iload_n (q := 55) B dX8_turnRuns_54 rfl 2 rfl ?_
      refine g_iconst (q := 56) B dX8_turnRuns_55 rfl ?_
      refine g_irem (q := 57) B dX8_turnRuns_56 rfl (by omega) (by omega) (by omega) (by omega) ?_
      refine g_callS (q := 60) (As := [.ref (yA Y n), .int (iI (q % 2))]) (st := []) B dX8_turnRuns_57 rfl (c_X8_dealOn (l := xL X) (S := S) hm (wf.b hw) (q % 2) ⟨by omega, by omega⟩ (wf_deal hw (q % 2))) eX8_dealOn w1092 (by decide) rfl rfl (Nat.le_of_ble_eq_true rfl) (g_kV (fun Sy hSy => ?_))
      obtain ⟨hvSy, hfSy⟩ := hSy
      have := gapF_in (wf_deal hw (q % 2))
      refine g_pop (q := 61) B dX8_turnRuns_60 rfl rfl ?_
      refine g_goto (q := 110) B dX8_turnRuns_61 (by decide) ?_
      refine g_vret B E dX8_turnRuns_110 ?_
      refine ⟨rfl, ?_, hfSy⟩
      rw [hvSy]
      unfold trU
      (repeat' split) <;> first | omega | ((first | unfold cutG | unfold dealG | unfold giveG); (repeat' split) <;> first | rfl | omega) | rfl
  · refine g_aload_n (q := 7) B dX8_turnRuns_6 rfl 0 rfl ?_
    refine g_iconst (q := 8) B dX8_turnRuns_7 rfl ?_
    refine g_iload_n (q := 9) B dX8_turnRuns_8 rfl 2 rfl ?_
    refine g_bipush (q := 11) B dX8_turnRuns_9 rfl (by decide) ?_
    refine g_irem (q := 12) B dX8_turnRuns_11 rfl (by omega) (by omega) (by omega) (by omega) ?_
    refine g_iadd (q := 13) B dX8_turnRuns_12 rfl ?_
    refine g_callS (q := 16) (As := [.ref (yA Y n), .int (iI (1 + (q % 15)))]) (st := []) B dX8_turnRuns_13 rfl (c_X8_isCutPlace (l := xL X) (S := S) hm (wf.b hw) (1 + (q % 15)) ⟨by omega, by omega⟩) eX8_isCutPlace w1047 (by decide) rfl rfl (Nat.le_of_ble_eq_true rfl) (g_kE ?_)
    refine g_ifb_eq (t := 110) (q := 19) B dX8_turnRuns_16 (by decide) rfl (fun cq16 => ?_) (fun cq16 => ?_)
    · refine g_vret B E dX8_turnRuns_110 ?_
      refine ⟨rfl, ?_, fm.rf⟩
      unfold trU
      (repeat' split) <;> first | omega | ((first | unfold cutG | unfold dealG | unfold giveG); (repeat' split) <;> first | rfl | omega) | rfl
    · refine g_aload_n (q := 20) B dX8_turnRuns_19 rfl 0 rfl ?_
      refine g_iconst (q := 21) B dX8_turnRuns_20 rfl ?_
      refine g_iload_n (q := 22) B dX8_turnRuns_21 rfl 2 rfl ?_
      refine g_bipush (q := 24) B dX8_turnRuns_22 rfl (by decide) ?_
      refine g_irem (q := 25) B dX8_turnRuns_24 rfl (by omega) (by omega) (by omega) (by omega) ?_
      refine g_iadd (q := 26) B dX8_turnRuns_25 rfl ?_
      refine g_iload_n (q := 27) B dX8_turnRuns_26 rfl 2 rfl ?_
      refine g_bipush (q := 29) B dX8_turnRuns_27 rfl (by decide) ?_
      refine g_idiv (q := 30) B dX8_turnRuns_29 rfl (by omega) (by omega) (by omega) (by omega) ?_
      refine g_iconst (q := 31) B dX8_turnRuns_30 rfl ?_
      refine g_irem (q := 32) B dX8_turnRuns_31 rfl (by omega) (by omega) (by omega) (by omega) ?_
      refine g_if_eq (t := 39) (q := 35) B dX8_turnRuns_32 (by decide) rfl ⟨by omega, by omega⟩ (fun cq32 => ?_) (fun cq32 => ?_)
      · refine g_iconst (q := 40) B dX8_turnRuns_39 rfl ?_
        refine g_callS (q := 43) (As := [.ref (yA Y n), .int (iI (1 + (q % 15))), .int (iI 0)]) (st := []) B dX8_turnRuns_40 rfl (c_X8_cutOn (l := xL X) (S := S) hm hw (1 + (q % 15)) 0 (by omega) (by omega) (by omega)) eX8_cutOn w1050 (by decide) rfl rfl (Nat.le_of_ble_eq_true rfl) (g_kV (fun Sy hSy => ?_))
        obtain ⟨hvSy, hfSy⟩ := hSy
        have := runsF_in (cutF (mw S n) (1 + (q % 15)) ((0 : Int) = 1))
        refine g_pop (q := 44) B dX8_turnRuns_43 rfl rfl ?_
        refine g_goto (q := 110) B dX8_turnRuns_44 (by decide) ?_
        refine g_vret B E dX8_turnRuns_110 ?_
        refine ⟨rfl, ?_, hfSy⟩
        rw [hvSy]
        unfold trU
        (repeat' split) <;> first | omega | ((first | unfold cutG | unfold dealG | unfold giveG); (repeat' split) <;> first | rfl | omega) | rfl
      · refine g_iconst (q := 36) B dX8_turnRuns_35 rfl ?_
        refine g_goto (q := 40) B dX8_turnRuns_36 (by decide) ?_
        refine g_callS (q := 43) (As := [.ref (yA Y n), .int (iI (1 + (q % 15))), .int (iI 1)]) (st := []) B dX8_turnRuns_40 rfl (c_X8_cutOn (l := xL X) (S := S) hm hw (1 + (q % 15)) 1 (by omega) (by omega) (by omega)) eX8_cutOn w1050 (by decide) rfl rfl (Nat.le_of_ble_eq_true rfl) (g_kV (fun Sy hSy => ?_))
        obtain ⟨hvSy, hfSy⟩ := hSy
        have := runsF_in (cutF (mw S n) (1 + (q % 15)) ((1 : Int) = 1))
        refine g_pop (q := 44) B dX8_turnRuns_43 rfl rfl ?_
        refine g_goto (q := 110) B dX8_turnRuns_44 (by decide) ?_
        refine g_vret B E dX8_turnRuns_110 ?_
        refine ⟨rfl, ?_, hfSy⟩
        rw [hvSy]
        unfold trU
        (repeat' split) <;> first | omega | ((first | unfold cutG | unfold dealG | unfold giveG); (repeat' split) <;> first | rfl | omega) | rfl
