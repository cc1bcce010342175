set_option maxHeartbeats 4000000 in
theorem c_X8_figures {Y : gY} {l : Launch} {S : SS} (b dg lo hi : Int) (hb : -1 ≤ b ∧ b ≤ 99) (hdg : dg = 1 ∨ dg = 2) (hlo : 0 ≤ lo ∧ lo ≤ 15) (hhi : 0 ≤ hi ∧ hi ≤ 15) (hz : 0 ≤ S 82 1 ∧ S 82 1 ≤ 120) (hp : 0 ≤ S 82 3 ∧ S 82 3 ≤ 120) (ht : ∀ c : Int, 0 ≤ c → c < 120 → 0 ≤ S 83 c ∧ S 83 c ≤ 255) : gM Y l mX8_figures S [.ref (yA Y 82), .int (iI b), .int (iI dg), .int (iI lo), .int (iI hi)] (pV (.int (iI (if b = -1 then -1 else fgV (S 83) (S 82 1) (S 82 3) dg lo hi))) (fun S' => S' = us S 82 (uq (S 82) 3 (if b = -1 then S 82 3 else fgP (S 83) (S 82 1) (S 82 3) dg lo hi)))) := by
  refine gM_of (by decide) (Nat.le_of_ble_eq_true rfl) ?_
  intro X hXl B E
  have h1 := ht (S 82 3) hp.1
  have h2 := ht (S 82 3 + 1) (by omega)
  have d1 : dgF (S 83) (S 82 1) (S 82 3) = if S 82 3 < S 82 1 then S 83 (S 82 3) - 48 else -1 := rfl
  have d2 : dgF (S 83) (S 82 1) (S 82 3 + 1) = if S 82 3 + 1 < S 82 1 then S 83 (S 82 3 + 1) - 48 else -1 := rfl
  show gW Y X S 0 [(0, .ref (yA Y 82)), (1, .int (iI b)), (2, .int (iI dg)), (3, .int (iI lo)), (4, .int (iI hi))] []
  refine g_iconst (q := 1) B dX8_figures_0 rfl ?_
  refine g_istore (q := 3) B dX8_figures_1 rfl (by decide) (L' := [(5, .int (iI 0)), (0, .ref (yA Y 82)), (1, .int (iI b)), (2, .int (iI dg)), (3, .int (iI lo)), (4, .int (iI hi))]) rfl ?_
  refine g_iload_n (q := 4) B dX8_figures_3 rfl 3 rfl ?_
  refine g_iconst (q := 5) B dX8_figures_4 rfl ?_
  refine g_icmp_ne (t := 13) (q := 8) B dX8_figures_5 (by decide) rfl ⟨by omega, by omega⟩ ⟨by omega, by omega⟩ (fun cq5 => ?_) (fun cq5 => ?_)
  · refine g_iconst (q := 14) B dX8_figures_13 rfl ?_
    refine g_istore (q := 16) B dX8_figures_14 rfl (by decide) (L' := [(6, .int (iI 1)), (5, .int (iI 0)), (0, .ref (yA Y 82)), (1, .int (iI b)), (2, .int (iI dg)), (3, .int (iI lo)), (4, .int (iI hi))]) rfl ?_
    refine g_iload (q := 18) B dX8_figures_16 rfl 0 rfl ?_
    refine g_if_le (t := 122) (q := 21) B dX8_figures_18 (by decide) rfl ⟨by omega, by omega⟩ (fun cq18 => ?_) (fun cq18 => ?_)
    · exact absurd cq18 (by omega)
    · refine g_iload_n (q := 22) B dX8_figures_21 rfl 3 rfl ?_
      refine g_iconst (q := 23) B dX8_figures_22 rfl ?_
      refine g_icmp_eq (t := 122) (q := 26) B dX8_figures_23 (by decide) rfl ⟨by omega, by omega⟩ ⟨by omega, by omega⟩ (fun cq23 => ?_) (fun cq23 => ?_)
      · refine g_iload_n (q := 123) B dX8_figures_122 rfl 3 rfl ?_
        refine g_iconst (q := 124) B dX8_figures_123 rfl ?_
        refine g_icmp_ne (t := 131) (q := 127) B dX8_figures_124 (by decide) rfl ⟨by omega, by omega⟩ ⟨by omega, by omega⟩ (fun cq124 => ?_) (fun cq124 => ?_)
        · refine g_iload (q := 133) B dX8_figures_131 rfl 1 rfl ?_
          refine g_iret B E dX8_figures_133 ?_
          have ev : (if b = -1 then -1 else fgV (S 83) (S 82 1) (S 82 3) dg lo hi) = 0 := by
            unfold fgV
            (repeat' split) <;> omega
          have ep : (if b = -1 then S 82 3 else fgP (S 83) (S 82 1) (S 82 3) dg lo hi) = S 82 3 := by
            unfold fgP
            (repeat' split) <;> omega
          exact ⟨by rw [ev], by rw [ep]; exact (by rw [uq_self]; exact (us_id S 82).symm)⟩
        · refine g_iconst (q := 128) B dX8_figures_127 rfl ?_
          refine g_goto (q := 133) B dX8_figures_128 (by decide) ?_
          refine g_iret B E dX8_figures_133 ?_
          have ev : (if b = -1 then -1 else fgV (S 83) (S 82 1) (S 82 3) dg lo hi) = -1 := by
            unfold fgV
            (repeat' split) <;> omega
          have ep : (if b = -1 then S 82 3 else fgP (S 83) (S 82 1) (S 82 3) dg lo hi) = S 82 3 := by
            unfold fgP
            (repeat' split) <;> omega
          exact ⟨by rw [ev], by rw [ep]; exact (by rw [uq_self]; exact (us_id S 82).symm)⟩
      · refine g_aload_n (q := 27) B dX8_figures_26 rfl 2 rfl ?_
        refine g_get (n := 82) (ty := tyX8) (q := 30) (v := .int (iI (S 82 3))) B dX8_figures_27 rfl rfl rfl cls6 11 (by decide) w962 rfl ?_
        refine g_aload_n (q := 31) B dX8_figures_30 rfl 2 rfl ?_
        refine g_get (n := 82) (ty := tyX8) (q := 34) (v := .int (iI (S 82 1))) B dX8_figures_31 rfl rfl rfl cls6 2 (by decide) w953 rfl ?_
        refine g_icmp_ge (t := 52) (q := 37) B dX8_figures_34 (by decide) rfl ⟨by omega, by omega⟩ ⟨by omega, by omega⟩ (fun cq34 => ?_) (fun cq34 => ?_)
        · refine g_iconst (q := 53) B dX8_figures_52 rfl ?_
          refine g_istore (q := 55) B dX8_figures_53 rfl (by decide) (L' := [(7, .int (iI (-1))), (6, .int (iI 1)), (5, .int (iI 0)), (0, .ref (yA Y 82)), (1, .int (iI b)), (2, .int (iI dg)), (3, .int (iI lo)), (4, .int (iI hi))]) rfl ?_
          refine g_iload (q := 57) B dX8_figures_55 rfl 2 rfl ?_
          refine g_iload (q := 59) B dX8_figures_57 rfl 0 rfl ?_
          refine g_iload (q := 61) B dX8_figures_59 rfl 1 rfl ?_
          refine g_imul (q := 62) B dX8_figures_61 rfl ?_
          refine g_iadd (q := 63) B dX8_figures_62 rfl ?_
          refine g_istore (q := 65) B dX8_figures_63 rfl (by decide) (L' := [(8, .int (iI (0 + ((-1) * 1)))), (7, .int (iI (-1))), (6, .int (iI 1)), (5, .int (iI 0)), (0, .ref (yA Y 82)), (1, .int (iI b)), (2, .int (iI dg)), (3, .int (iI lo)), (4, .int (iI hi))]) rfl ?_
          refine g_iload (q := 67) B dX8_figures_65 rfl 1 rfl ?_
          refine g_i2l (q := 68) B dX8_figures_67 rfl ⟨by omega, by omega⟩ ?_
          refine g_lconst (z := 0) (q := 69) B dX8_figures_68 rfl rfl ?_
          refine g_ldc2 (z := 9) (q := 72) B dX8_figures_69 rfl w1033 (by decide) ?_
          refine g_callS (q := 75) (As := [.long (lI (-1)), .long (lI 0), .long (lI 9)]) (st := []) B dX8_figures_72 rfl (c_X8_in (l := xL X) (S := S) (-1) 0 9 ⟨by omega, by omega⟩ ⟨by omega, by omega⟩ ⟨by omega, by omega⟩) eX8_in w1001 (by decide) rfl rfl (Nat.le_of_ble_eq_true rfl) (g_kE ?_)
          refine g_ifb_eq (t := 96) (q := 78) B dX8_figures_75 (by decide) rfl (fun cq75 => ?_) (fun cq75 => ?_)
          · refine g_iconst (q := 97) B dX8_figures_96 rfl ?_
            refine g_iret B E dX8_figures_97 ?_
            have ev : (if b = -1 then -1 else fgV (S 83) (S 82 1) (S 82 3) dg lo hi) = -1 := by
              unfold fgV
              (repeat' split) <;> omega
            have ep : (if b = -1 then S 82 3 else fgP (S 83) (S 82 1) (S 82 3) dg lo hi) = S 82 3 := by
              unfold fgP
              (repeat' split) <;> omega
            exact ⟨by rw [ev], by rw [ep]; exact (by rw [uq_self]; exact (us_id S 82).symm)⟩
          · refine g_iload (q := 80) B dX8_figures_78 rfl 0 rfl ?_
            refine g_iload (q := 82) B dX8_figures_80 rfl 8 rfl ?_
            refine g_icmp_gt (t := 96) (q := 85) B dX8_figures_82 (by decide) rfl ⟨by omega, by omega⟩ ⟨by omega, by omega⟩ (fun cq82 => ?_) (fun cq82 => ?_)
            · refine g_iconst (q := 97) B dX8_figures_96 rfl ?_
              refine g_iret B E dX8_figures_97 ?_
              have ev : (if b = -1 then -1 else fgV (S 83) (S 82 1) (S 82 3) dg lo hi) = -1 := by
                unfold fgV
                (repeat' split) <;> omega
              have ep : (if b = -1 then S 82 3 else fgP (S 83) (S 82 1) (S 82 3) dg lo hi) = S 82 3 := by
                unfold fgP
                (repeat' split) <;> omega
              exact ⟨by rw [ev], by rw [ep]; exact (by rw [uq_self]; exact (us_id S 82).symm)⟩
            · refine g_iload (q := 87) B dX8_figures_85 rfl 0 rfl ?_
              refine g_iload (q := 89) B dX8_figures_87 rfl 2 rfl ?_
              refine g_iadd (q := 90) B dX8_figures_89 rfl ?_
              refine g_iconst (q := 91) B dX8_figures_90 rfl ?_
              refine g_isub (q := 92) B dX8_figures_91 rfl ?_
              refine g_iload_n (q := 93) B dX8_figures_92 rfl 7 rfl ?_
              refine g_icmp_ge (t := 98) (q := 96) B dX8_figures_93 (by decide) rfl ⟨by omega, by omega⟩ ⟨by omega, by omega⟩ (fun cq93 => ?_) (fun cq93 => ?_)
              · refine g_iload (q := 100) B dX8_figures_98 rfl 0 rfl ?_
                refine g_istore (q := 102) B dX8_figures_100 rfl (by decide) (L' := [(5, .int (iI (0 + ((-1) * 1)))), (8, .int (iI (0 + ((-1) * 1)))), (7, .int (iI (-1))), (6, .int (iI 1)), (0, .ref (yA Y 82)), (1, .int (iI b)), (2, .int (iI dg)), (3, .int (iI lo)), (4, .int (iI hi))]) rfl ?_
                refine g_aload_n (q := 103) B dX8_figures_102 rfl 4 rfl ?_
                refine g_dup (q := 104) B dX8_figures_103 rfl rfl ?_
                refine g_get (n := 82) (ty := tyX8) (q := 107) (v := .int (iI (S 82 3))) B dX8_figures_104 rfl rfl rfl cls6 11 (by decide) w962 rfl ?_
                refine g_iconst (q := 108) B dX8_figures_107 rfl ?_
                refine g_iadd (q := 109) B dX8_figures_108 rfl ?_
                refine g_put (n := 82) (ty := tyX8) (q := 112) B dX8_figures_109 rfl rfl rfl cls6 11 (by decide) w962 rfl rfl rfl (Nat.le_of_ble_eq_true rfl) ((uq (S 82) 3 ((S 82 3) + 1))) rfl ?_
                refine g_iload (q := 114) B dX8_figures_112 rfl 3 rfl ?_
                refine g_bipush (q := 116) B dX8_figures_114 rfl (by decide) ?_
                refine g_idiv (q := 117) B dX8_figures_116 rfl (by omega) (by omega) (by omega) (by omega) ?_
                refine g_istore (q := 119) B dX8_figures_117 rfl (by decide) (L' := [(6, .int (iI (1 / 10))), (5, .int (iI (0 + ((-1) * 1)))), (8, .int (iI (0 + ((-1) * 1)))), (7, .int (iI (-1))), (0, .ref (yA Y 82)), (1, .int (iI b)), (2, .int (iI dg)), (3, .int (iI lo)), (4, .int (iI hi))]) rfl ?_
                refine g_goto (q := 16) B dX8_figures_119 (by decide) ?_
                refine g_iload (q := 18) B dX8_figures_16 rfl 0 rfl ?_
                refine g_if_le (t := 122) (q := 21) B dX8_figures_18 (by decide) rfl ⟨by omega, by omega⟩ (fun cq18 => ?_) (fun cq18 => ?_)
                · refine g_iload_n (q := 123) B dX8_figures_122 rfl 5 rfl ?_
                  refine g_iconst (q := 124) B dX8_figures_123 rfl ?_
                  refine g_icmp_ne (t := 131) (q := 127) B dX8_figures_124 (by decide) rfl ⟨by omega, by omega⟩ ⟨by omega, by omega⟩ (fun cq124 => ?_) (fun cq124 => ?_)
                  · refine g_iload (q := 133) B dX8_figures_131 rfl 1 rfl ?_
                    refine g_iret B E dX8_figures_133 ?_
                    have ev : (if b = -1 then -1 else fgV (S 83) (S 82 1) (S 82 3) dg lo hi) = 0 + ((-1) * 1) := by
                      unfold fgV
                      (repeat' split) <;> omega
                    have ep : (if b = -1 then S 82 3 else fgP (S 83) (S 82 1) (S 82 3) dg lo hi) = (S 82 3) + 1 := by
                      unfold fgP
                      (repeat' split) <;> omega
                    exact ⟨by rw [ev], by rw [ep]; skip⟩
                  · refine g_iconst (q := 128) B dX8_figures_127 rfl ?_
                    refine g_goto (q := 133) B dX8_figures_128 (by decide) ?_
                    refine g_iret B E dX8_figures_133 ?_
                    have ev : (if b = -1 then -1 else fgV (S 83) (S 82 1) (S 82 3) dg lo hi) = -1 := by
                      unfold fgV
                      (repeat' split) <;> omega
                    have ep : (if b = -1 then S 82 3 else fgP (S 83) (S 82 1) (S 82 3) dg lo hi) = (S 82 3) + 1 := by
                      unfold fgP
                      (repeat' split) <;> omega
                    exact ⟨by rw [ev], by rw [ep]; skip⟩
                · exact absurd cq18 (by omega)
              · refine g_iconst (q := 97) B dX8_figures_96 rfl ?_
                refine g_iret B E dX8_figures_97 ?_
                have ev : (if b = -1 then -1 else fgV (S 83) (S 82 1) (S 82 3) dg lo hi) = -1 := by
                  unfold fgV
                  (repeat' split) <;> omega
                have ep : (if b = -1 then S 82 3 else fgP (S 83) (S 82 1) (S 82 3) dg lo hi) = S 82 3 := by
                  unfold fgP
                  (repeat' split) <;> omega
                exact ⟨by rw [ev], by rw [ep]; exact (by rw [uq_self]; exact (us_id S 82).symm)⟩
        · refine g_aload_n (q := 38) B dX8_figures_37 rfl 2 rfl ?_
          refine g_get (n := 82) (ty := tyX8) (q := 41) (v := .ref (yA Y 83)) B dX8_figures_38 rfl rfl rfl cls6 1 (by decide) w952 rfl ?_
          refine g_aload_n (q := 42) B dX8_figures_41 rfl 2 rfl ?_
          refine g_get (n := 82) (ty := tyX8) (q := 45) (v := .int (iI (S 82 3))) B dX8_figures_42 rfl rfl rfl cls6 11 (by decide) w962 rfl ?_
          refine g_iald (n := 83) (q := 46) B dX8_figures_45 rfl rfl rfl (by decide) (by omega) (by omega) ?_
          refine g_bipush (q := 48) B dX8_figures_46 rfl (by decide) ?_
          refine g_isub (q := 49) B dX8_figures_48 rfl ?_
          refine g_goto (q := 53) B dX8_figures_49 (by decide) ?_
          refine g_istore (q := 55) B dX8_figures_53 rfl (by decide) (L' := [(7, .int (iI ((S 83 (S 82 3)) - 48))), (6, .int (iI 1)), (5, .int (iI 0)), (0, .ref (yA Y 82)), (1, .int (iI b)), (2, .int (iI dg)), (3, .int (iI lo)), (4, .int (iI hi))]) rfl ?_
          refine g_iload (q := 57) B dX8_figures_55 rfl 2 rfl ?_
          refine g_iload (q := 59) B dX8_figures_57 rfl 0 rfl ?_
          refine g_iload (q := 61) B dX8_figures_59 rfl 1 rfl ?_
          refine g_imul (q := 62) B dX8_figures_61 rfl ?_
          refine g_iadd (q := 63) B dX8_figures_62 rfl ?_
          refine g_istore (q := 65) B dX8_figures_63 rfl (by decide) (L' := [(8, .int (iI (0 + (((S 83 (S 82 3)) - 48) * 1)))), (7, .int (iI ((S 83 (S 82 3)) - 48))), (6, .int (iI 1)), (5, .int (iI 0)), (0, .ref (yA Y 82)), (1, .int (iI b)), (2, .int (iI dg)), (3, .int (iI lo)), (4, .int (iI hi))]) rfl ?_
          refine g_iload (q := 67) B dX8_figures_65 rfl 1 rfl ?_
          refine g_i2l (q := 68) B dX8_figures_67 rfl ⟨by omega, by omega⟩ ?_
          refine g_lconst (z := 0) (q := 69) B dX8_figures_68 rfl rfl ?_
          refine g_ldc2 (z := 9) (q := 72) B dX8_figures_69 rfl w1033 (by decide) ?_
          refine g_callS (q := 75) (As := [.long (lI ((S 83 (S 82 3)) - 48)), .long (lI 0), .long (lI 9)]) (st := []) B dX8_figures_72 rfl (c_X8_in (l := xL X) (S := S) ((S 83 (S 82 3)) - 48) 0 9 ⟨by omega, by omega⟩ ⟨by omega, by omega⟩ ⟨by omega, by omega⟩) eX8_in w1001 (by decide) rfl rfl (Nat.le_of_ble_eq_true rfl) (g_kE ?_)
          refine g_ifb_eq (t := 96) (q := 78) B dX8_figures_75 (by decide) rfl (fun cq75 => ?_) (fun cq75 => ?_)
          · refine g_iconst (q := 97) B dX8_figures_96 rfl ?_
            refine g_iret B E dX8_figures_97 ?_
            have ev : (if b = -1 then -1 else fgV (S 83) (S 82 1) (S 82 3) dg lo hi) = -1 := by
              unfold fgV
              (repeat' split) <;> omega
            have ep : (if b = -1 then S 82 3 else fgP (S 83) (S 82 1) (S 82 3) dg lo hi) = S 82 3 := by
              unfold fgP
              (repeat' split) <;> omega
            exact ⟨by rw [ev], by rw [ep]; exact (by rw [uq_self]; exact (us_id S 82).symm)⟩
          · refine g_iload (q := 80) B dX8_figures_78 rfl 0 rfl ?_
            refine g_iload (q := 82) B dX8_figures_80 rfl 8 rfl ?_
            refine g_icmp_gt (t := 96) (q := 85) B dX8_figures_82 (by decide) rfl ⟨by omega, by omega⟩ ⟨by omega, by omega⟩ (fun cq82 => ?_) (fun cq82 => ?_)
            · refine g_iconst (q := 97) B dX8_figures_96 rfl ?_
              refine g_iret B E dX8_figures_97 ?_
              have ev : (if b = -1 then -1 else fgV (S 83) (S 82 1) (S 82 3) dg lo hi) = -1 := by
                unfold fgV
                (repeat' split) <;> omega
              have ep : (if b = -1 then S 82 3 else fgP (S 83) (S 82 1) (S 82 3) dg lo hi) = S 82 3 := by
                unfold fgP
                (repeat' split) <;> omega
              exact ⟨by rw [ev], by rw [ep]; exact (by rw [uq_self]; exact (us_id S 82).symm)⟩
            · refine g_iload (q := 87) B dX8_figures_85 rfl 0 rfl ?_
              refine g_iload (q := 89) B dX8_figures_87 rfl 2 rfl ?_
              refine g_iadd (q := 90) B dX8_figures_89 rfl ?_
              refine g_iconst (q := 91) B dX8_figures_90 rfl ?_
              refine g_isub (q := 92) B dX8_figures_91 rfl ?_
              refine g_iload_n (q := 93) B dX8_figures_92 rfl 7 rfl ?_
              refine g_icmp_ge (t := 98) (q := 96) B dX8_figures_93 (by decide) rfl ⟨by omega, by omega⟩ ⟨by omega, by omega⟩ (fun cq93 => ?_) (fun cq93 => ?_)
              · refine g_iload (q := 100) B dX8_figures_98 rfl 0 rfl ?_
                refine g_istore (q := 102) B dX8_figures_100 rfl (by decide) (L' := [(5, .int (iI (0 + (((S 83 (S 82 3)) - 48) * 1)))), (8, .int (iI (0 + (((S 83 (S 82 3)) - 48) * 1)))), (7, .int (iI ((S 83 (S 82 3)) - 48))), (6, .int (iI 1)), (0, .ref (yA Y 82)), (1, .int (iI b)), (2, .int (iI dg)), (3, .int (iI lo)), (4, .int (iI hi))]) rfl ?_
                refine g_aload_n (q := 103) B dX8_figures_102 rfl 4 rfl ?_
                refine g_dup (q := 104) B dX8_figures_103 rfl rfl ?_
                refine g_get (n := 82) (ty := tyX8) (q := 107) (v := .int (iI (S 82 3))) B dX8_figures_104 rfl rfl rfl cls6 11 (by decide) w962 rfl ?_
                refine g_iconst (q := 108) B dX8_figures_107 rfl ?_
                refine g_iadd (q := 109) B dX8_figures_108 rfl ?_
                refine g_put (n := 82) (ty := tyX8) (q := 112) B dX8_figures_109 rfl rfl rfl cls6 11 (by decide) w962 rfl rfl rfl (Nat.le_of_ble_eq_true rfl) ((uq (S 82) 3 ((S 82 3) + 1))) rfl ?_
                refine g_iload (q := 114) B dX8_figures_112 rfl 3 rfl ?_
                refine g_bipush (q := 116) B dX8_figures_114 rfl (by decide) ?_
                refine g_idiv (q := 117) B dX8_figures_116 rfl (by omega) (by omega) (by omega) (by omega) ?_
                refine g_istore (q := 119) B dX8_figures_117 rfl (by decide) (L' := [(6, .int (iI (1 / 10))), (5, .int (iI (0 + (((S 83 (S 82 3)) - 48) * 1)))), (8, .int (iI (0 + (((S 83 (S 82 3)) - 48) * 1)))), (7, .int (iI ((S 83 (S 82 3)) - 48))), (0, .ref (yA Y 82)), (1, .int (iI b)), (2, .int (iI dg)), (3, .int (iI lo)), (4, .int (iI hi))]) rfl ?_
                refine g_goto (q := 16) B dX8_figures_119 (by decide) ?_
                refine g_iload (q := 18) B dX8_figures_16 rfl 0 rfl ?_
                refine g_if_le (t := 122) (q := 21) B dX8_figures_18 (by decide) rfl ⟨by omega, by omega⟩ (fun cq18 => ?_) (fun cq18 => ?_)
                · refine g_iload_n (q := 123) B dX8_figures_122 rfl 5 rfl ?_
                  refine g_iconst (q := 124) B dX8_figures_123 rfl ?_
                  refine g_icmp_ne (t := 131) (q := 127) B dX8_figures_124 (by decide) rfl ⟨by omega, by omega⟩ ⟨by omega, by omega⟩ (fun cq124 => ?_) (fun cq124 => ?_)
                  · refine g_iload (q := 133) B dX8_figures_131 rfl 1 rfl ?_
                    refine g_iret B E dX8_figures_133 ?_
                    have ev : (if b = -1 then -1 else fgV (S 83) (S 82 1) (S 82 3) dg lo hi) = 0 + (((S 83 (S 82 3)) - 48) * 1) := by
                      unfold fgV
                      (repeat' split) <;> omega
                    have ep : (if b = -1 then S 82 3 else fgP (S 83) (S 82 1) (S 82 3) dg lo hi) = (S 82 3) + 1 := by
                      unfold fgP
                      (repeat' split) <;> omega
                    exact ⟨by rw [ev], by rw [ep]; skip⟩
                  · refine g_iconst (q := 128) B dX8_figures_127 rfl ?_
                    refine g_goto (q := 133) B dX8_figures_128 (by decide) ?_
                    refine g_iret B E dX8_figures_133 ?_
                    have ev : (if b = -1 then -1 else fgV (S 83) (S 82 1) (S 82 3) dg lo hi) = -1 := by
                      unfold fgV
                      (repeat' split) <;> omega
                    have ep : (if b = -1 then S 82 3 else fgP (S 83) (S 82 1) (S 82 3) dg lo hi) = (S 82 3) + 1 := by
                      unfold fgP
                      (repeat' split) <;> omega
                    exact ⟨by rw [ev], by rw [ep]; skip⟩
                · exact absurd cq18 (by omega)
              · refine g_iconst (q := 97) B dX8_figures_96 rfl ?_
                refine g_iret B E dX8_figures_97 ?_
                have ev : (if b = -1 then -1 else fgV (S 83) (S 82 1) (S 82 3) dg lo hi) = -1 := by
                  unfold fgV
                  (repeat' split) <;> omega
                have ep : (if b = -1 then S 82 3 else fgP (S 83) (S 82 1) (S 82 3) dg lo hi) = S 82 3 := by
                  unfold fgP
                  (repeat' split) <;> omega
                exact ⟨by rw [ev], by rw [ep]; exact (by rw [uq_self]; exact (us_id S 82).symm)⟩
  · refine g_bipush (q := 10) B dX8_figures_8 rfl (by decide) ?_
    refine g_goto (q := 14) B dX8_figures_10 (by decide) ?_
    refine g_istore (q := 16) B dX8_figures_14 rfl (by decide) (L' := [(6, .int (iI 10)), (5, .int (iI 0)), (0, .ref (yA Y 82)), (1, .int (iI b)), (2, .int (iI dg)), (3, .int (iI lo)), (4, .int (iI hi))]) rfl ?_
    refine g_iload (q := 18) B dX8_figures_16 rfl 0 rfl ?_
    refine g_if_le (t := 122) (q := 21) B dX8_figures_18 (by decide) rfl ⟨by omega, by omega⟩ (fun cq18 => ?_) (fun cq18 => ?_)
    · exact absurd cq18 (by omega)
    · refine g_iload_n (q := 22) B dX8_figures_21 rfl 3 rfl ?_
      refine g_iconst (q := 23) B dX8_figures_22 rfl ?_
      refine g_icmp_eq (t := 122) (q := 26) B dX8_figures_23 (by decide) rfl ⟨by omega, by omega⟩ ⟨by omega, by omega⟩ (fun cq23 => ?_) (fun cq23 => ?_)
      · refine g_iload_n (q := 123) B dX8_figures_122 rfl 3 rfl ?_
        refine g_iconst (q := 124) B dX8_figures_123 rfl ?_
        refine g_icmp_ne (t := 131) (q := 127) B dX8_figures_124 (by decide) rfl ⟨by omega, by omega⟩ ⟨by omega, by omega⟩ (fun cq124 => ?_) (fun cq124 => ?_)
        · refine g_iload (q := 133) B dX8_figures_131 rfl 1 rfl ?_
          refine g_iret B E dX8_figures_133 ?_
          have ev : (if b = -1 then -1 else fgV (S 83) (S 82 1) (S 82 3) dg lo hi) = 0 := by
            unfold fgV
            (repeat' split) <;> omega
          have ep : (if b = -1 then S 82 3 else fgP (S 83) (S 82 1) (S 82 3) dg lo hi) = S 82 3 := by
            unfold fgP
            (repeat' split) <;> omega
          exact ⟨by rw [ev], by rw [ep]; exact (by rw [uq_self]; exact (us_id S 82).symm)⟩
        · refine g_iconst (q := 128) B dX8_figures_127 rfl ?_
          refine g_goto (q := 133) B dX8_figures_128 (by decide) ?_
          refine g_iret B E dX8_figures_133 ?_
          have ev : (if b = -1 then -1 else fgV (S 83) (S 82 1) (S 82 3) dg lo hi) = -1 := by
            unfold fgV
            (repeat' split) <;> omega
          have ep : (if b = -1 then S 82 3 else fgP (S 83) (S 82 1) (S 82 3) dg lo hi) = S 82 3 := by
            unfold fgP
            (repeat' split) <;> omega
          exact ⟨by rw [ev], by rw [ep]; exact (by rw [uq_self]; exact (us_id S 82).symm)⟩
      · refine g_aload_n (q := 27) B dX8_figures_26 rfl 2 rfl ?_
        refine g_get (n := 82) (ty := tyX8) (q := 30) (v := .int (iI (S 82 3))) B dX8_figures_27 rfl rfl rfl cls6 11 (by decide) w962 rfl ?_
        refine g_aload_n (q := 31) B dX8_figures_30 rfl 2 rfl ?_
        refine g_get (n := 82) (ty := tyX8) (q := 34) (v := .int (iI (S 82 1))) B dX8_figures_31 rfl rfl rfl cls6 2 (by decide) w953 rfl ?_
        refine g_icmp_ge (t := 52) (q := 37) B dX8_figures_34 (by decide) rfl ⟨by omega, by omega⟩ ⟨by omega, by omega⟩ (fun cq34 => ?_) (fun cq34 => ?_)
        · refine g_iconst (q := 53) B dX8_figures_52 rfl ?_
          refine g_istore (q := 55) B dX8_figures_53 rfl (by decide) (L' := [(7, .int (iI (-1))), (6, .int (iI 10)), (5, .int (iI 0)), (0, .ref (yA Y 82)), (1, .int (iI b)), (2, .int (iI dg)), (3, .int (iI lo)), (4, .int (iI hi))]) rfl ?_
          refine g_iload (q := 57) B dX8_figures_55 rfl 2 rfl ?_
          refine g_iload (q := 59) B dX8_figures_57 rfl 0 rfl ?_
          refine g_iload (q := 61) B dX8_figures_59 rfl 1 rfl ?_
          refine g_imul (q := 62) B dX8_figures_61 rfl ?_
          refine g_iadd (q := 63) B dX8_figures_62 rfl ?_
          refine g_istore (q := 65) B dX8_figures_63 rfl (by decide) (L' := [(8, .int (iI (0 + ((-1) * 10)))), (7, .int (iI (-1))), (6, .int (iI 10)), (5, .int (iI 0)), (0, .ref (yA Y 82)), (1, .int (iI b)), (2, .int (iI dg)), (3, .int (iI lo)), (4, .int (iI hi))]) rfl ?_
          refine g_iload (q := 67) B dX8_figures_65 rfl 1 rfl ?_
          refine g_i2l (q := 68) B dX8_figures_67 rfl ⟨by omega, by omega⟩ ?_
          refine g_lconst (z := 0) (q := 69) B dX8_figures_68 rfl rfl ?_
          refine g_ldc2 (z := 9) (q := 72) B dX8_figures_69 rfl w1033 (by decide) ?_
          refine g_callS (q := 75) (As := [.long (lI (-1)), .long (lI 0), .long (lI 9)]) (st := []) B dX8_figures_72 rfl (c_X8_in (l := xL X) (S := S) (-1) 0 9 ⟨by omega, by omega⟩ ⟨by omega, by omega⟩ ⟨by omega, by omega⟩) eX8_in w1001 (by decide) rfl rfl (Nat.le_of_ble_eq_true rfl) (g_kE ?_)
          refine g_ifb_eq (t := 96) (q := 78) B dX8_figures_75 (by decide) rfl (fun cq75 => ?_) (fun cq75 => ?_)
          · refine g_iconst (q := 97) B dX8_figures_96 rfl ?_
            refine g_iret B E dX8_figures_97 ?_
            have ev : (if b = -1 then -1 else fgV (S 83) (S 82 1) (S 82 3) dg lo hi) = -1 := by
              unfold fgV
              (repeat' split) <;> omega
            have ep : (if b = -1 then S 82 3 else fgP (S 83) (S 82 1) (S 82 3) dg lo hi) = S 82 3 := by
              unfold fgP
              (repeat' split) <;> omega
            exact ⟨by rw [ev], by rw [ep]; exact (by rw [uq_self]; exact (us_id S 82).symm)⟩
          · refine g_iload (q := 80) B dX8_figures_78 rfl 0 rfl ?_
            refine g_iload (q := 82) B dX8_figures_80 rfl 8 rfl ?_
            refine g_icmp_gt (t := 96) (q := 85) B dX8_figures_82 (by decide) rfl ⟨by omega, by omega⟩ ⟨by omega, by omega⟩ (fun cq82 => ?_) (fun cq82 => ?_)
            · refine g_iconst (q := 97) B dX8_figures_96 rfl ?_
              refine g_iret B E dX8_figures_97 ?_
              have ev : (if b = -1 then -1 else fgV (S 83) (S 82 1) (S 82 3) dg lo hi) = -1 := by
                unfold fgV
                (repeat' split) <;> omega
              have ep : (if b = -1 then S 82 3 else fgP (S 83) (S 82 1) (S 82 3) dg lo hi) = S 82 3 := by
                unfold fgP
                (repeat' split) <;> omega
              exact ⟨by rw [ev], by rw [ep]; exact (by rw [uq_self]; exact (us_id S 82).symm)⟩
            · refine g_iload (q := 87) B dX8_figures_85 rfl 0 rfl ?_
              refine g_iload (q := 89) B dX8_figures_87 rfl 2 rfl ?_
              refine g_iadd (q := 90) B dX8_figures_89 rfl ?_
              refine g_iconst (q := 91) B dX8_figures_90 rfl ?_
              refine g_isub (q := 92) B dX8_figures_91 rfl ?_
              refine g_iload_n (q := 93) B dX8_figures_92 rfl 7 rfl ?_
              refine g_icmp_ge (t := 98) (q := 96) B dX8_figures_93 (by decide) rfl ⟨by omega, by omega⟩ ⟨by omega, by omega⟩ (fun cq93 => ?_) (fun cq93 => ?_)
              · refine g_iload (q := 100) B dX8_figures_98 rfl 0 rfl ?_
                refine g_istore (q := 102) B dX8_figures_100 rfl (by decide) (L' := [(5, .int (iI (0 + ((-1) * 10)))), (8, .int (iI (0 + ((-1) * 10)))), (7, .int (iI (-1))), (6, .int (iI 10)), (0, .ref (yA Y 82)), (1, .int (iI b)), (2, .int (iI dg)), (3, .int (iI lo)), (4, .int (iI hi))]) rfl ?_
                refine g_aload_n (q := 103) B dX8_figures_102 rfl 4 rfl ?_
                refine g_dup (q := 104) B dX8_figures_103 rfl rfl ?_
                refine g_get (n := 82) (ty := tyX8) (q := 107) (v := .int (iI (S 82 3))) B dX8_figures_104 rfl rfl rfl cls6 11 (by decide) w962 rfl ?_
                refine g_iconst (q := 108) B dX8_figures_107 rfl ?_
                refine g_iadd (q := 109) B dX8_figures_108 rfl ?_
                refine g_put (n := 82) (ty := tyX8) (q := 112) B dX8_figures_109 rfl rfl rfl cls6 11 (by decide) w962 rfl rfl rfl (Nat.le_of_ble_eq_true rfl) ((uq (S 82) 3 ((S 82 3) + 1))) rfl ?_
                refine g_iload (q := 114) B dX8_figures_112 rfl 3 rfl ?_
                refine g_bipush (q := 116) B dX8_figures_114 rfl (by decide) ?_
                refine g_idiv (q := 117) B dX8_figures_116 rfl (by omega) (by omega) (by omega) (by omega) ?_
                refine g_istore (q := 119) B dX8_figures_117 rfl (by decide) (L' := [(6, .int (iI (10 / 10))), (5, .int (iI (0 + ((-1) * 10)))), (8, .int (iI (0 + ((-1) * 10)))), (7, .int (iI (-1))), (0, .ref (yA Y 82)), (1, .int (iI b)), (2, .int (iI dg)), (3, .int (iI lo)), (4, .int (iI hi))]) rfl ?_
                refine g_goto (q := 16) B dX8_figures_119 (by decide) ?_
                refine g_iload (q := 18) B dX8_figures_16 rfl 0 rfl ?_
                refine g_if_le (t := 122) (q := 21) B dX8_figures_18 (by decide) rfl ⟨by omega, by omega⟩ (fun cq18 => ?_) (fun cq18 => ?_)
                · exact absurd cq18 (by omega)
                · refine g_iload_n (q := 22) B dX8_figures_21 rfl 5 rfl ?_
                  refine g_iconst (q := 23) B dX8_figures_22 rfl ?_
                  refine g_icmp_eq (t := 122) (q := 26) B dX8_figures_23 (by decide) rfl ⟨by omega, by omega⟩ ⟨by omega, by omega⟩ (fun cq23 => ?_) (fun cq23 => ?_)
                  · refine g_iload_n (q := 123) B dX8_figures_122 rfl 5 rfl ?_
                    refine g_iconst (q := 124) B dX8_figures_123 rfl ?_
                    refine g_icmp_ne (t := 131) (q := 127) B dX8_figures_124 (by decide) rfl ⟨by omega, by omega⟩ ⟨by omega, by omega⟩ (fun cq124 => ?_) (fun cq124 => ?_)
                    · refine g_iload (q := 133) B dX8_figures_131 rfl 1 rfl ?_
                      refine g_iret B E dX8_figures_133 ?_
                      have ev : (if b = -1 then -1 else fgV (S 83) (S 82 1) (S 82 3) dg lo hi) = 0 + ((-1) * 10) := by
                        unfold fgV
                        (repeat' split) <;> omega
                      have ep : (if b = -1 then S 82 3 else fgP (S 83) (S 82 1) (S 82 3) dg lo hi) = (S 82 3) + 1 := by
                        unfold fgP
                        (repeat' split) <;> omega
                      exact ⟨by rw [ev], by rw [ep]; skip⟩
                    · refine g_iconst (q := 128) B dX8_figures_127 rfl ?_
                      refine g_goto (q := 133) B dX8_figures_128 (by decide) ?_
                      refine g_iret B E dX8_figures_133 ?_
                      have ev : (if b = -1 then -1 else fgV (S 83) (S 82 1) (S 82 3) dg lo hi) = -1 := by
                        unfold fgV
                        (repeat' split) <;> omega
                      have ep : (if b = -1 then S 82 3 else fgP (S 83) (S 82 1) (S 82 3) dg lo hi) = (S 82 3) + 1 := by
                        unfold fgP
                        (repeat' split) <;> omega
                      exact ⟨by rw [ev], by rw [ep]; skip⟩
                  · refine g_aload_n (q := 27) B dX8_figures_26 rfl 4 rfl ?_
                    refine g_get (n := 82) (ty := tyX8) (q := 30) (v := .int (iI ((S 82 3) + 1))) B dX8_figures_27 rfl (us_eq _ _ _) rfl cls6 11 (by decide) w962 rfl ?_
                    refine g_aload_n (q := 31) B dX8_figures_30 rfl 4 rfl ?_
                    refine g_get (n := 82) (ty := tyX8) (q := 34) (v := .int (iI (S 82 1))) B dX8_figures_31 rfl (us_eq _ _ _) rfl cls6 2 (by decide) w953 rfl ?_
                    refine g_icmp_ge (t := 52) (q := 37) B dX8_figures_34 (by decide) rfl ⟨by omega, by omega⟩ ⟨by omega, by omega⟩ (fun cq34 => ?_) (fun cq34 => ?_)
                    · refine g_iconst (q := 53) B dX8_figures_52 rfl ?_
                      refine g_istore (q := 55) B dX8_figures_53 rfl (by decide) (L' := [(7, .int (iI (-1))), (6, .int (iI (10 / 10))), (5, .int (iI (0 + ((-1) * 10)))), (8, .int (iI (0 + ((-1) * 10)))), (0, .ref (yA Y 82)), (1, .int (iI b)), (2, .int (iI dg)), (3, .int (iI lo)), (4, .int (iI hi))]) rfl ?_
                      refine g_iload (q := 57) B dX8_figures_55 rfl 2 rfl ?_
                      refine g_iload (q := 59) B dX8_figures_57 rfl 0 rfl ?_
                      refine g_iload (q := 61) B dX8_figures_59 rfl 1 rfl ?_
                      refine g_imul (q := 62) B dX8_figures_61 rfl ?_
                      refine g_iadd (q := 63) B dX8_figures_62 rfl ?_
                      refine g_istore (q := 65) B dX8_figures_63 rfl (by decide) (L' := [(8, .int (iI ((0 + ((-1) * 10)) + ((-1) * (10 / 10))))), (7, .int (iI (-1))), (6, .int (iI (10 / 10))), (5, .int (iI (0 + ((-1) * 10)))), (0, .ref (yA Y 82)), (1, .int (iI b)), (2, .int (iI dg)), (3, .int (iI lo)), (4, .int (iI hi))]) rfl ?_
                      refine g_iload (q := 67) B dX8_figures_65 rfl 1 rfl ?_
                      refine g_i2l (q := 68) B dX8_figures_67 rfl ⟨by omega, by omega⟩ ?_
                      refine g_lconst (z := 0) (q := 69) B dX8_figures_68 rfl rfl ?_
                      refine g_ldc2 (z := 9) (q := 72) B dX8_figures_69 rfl w1033 (by decide) ?_
                      refine g_callS (q := 75) (As := [.long (lI (-1)), .long (lI 0), .long (lI 9)]) (st := []) B dX8_figures_72 rfl (c_X8_in (l := xL X) (S := (us S 82 ((uq (S 82) 3 ((S 82 3) + 1))))) (-1) 0 9 ⟨by omega, by omega⟩ ⟨by omega, by omega⟩ ⟨by omega, by omega⟩) eX8_in w1001 (by decide) rfl rfl (Nat.le_of_ble_eq_true rfl) (g_kE ?_)
                      refine g_ifb_eq (t := 96) (q := 78) B dX8_figures_75 (by decide) rfl (fun cq75 => ?_) (fun cq75 => ?_)
                      · refine g_iconst (q := 97) B dX8_figures_96 rfl ?_
                        refine g_iret B E dX8_figures_97 ?_
                        have ev : (if b = -1 then -1 else fgV (S 83) (S 82 1) (S 82 3) dg lo hi) = -1 := by
                          unfold fgV
                          (repeat' split) <;> omega
                        have ep : (if b = -1 then S 82 3 else fgP (S 83) (S 82 1) (S 82 3) dg lo hi) = (S 82 3) + 1 := by
                          unfold fgP
                          (repeat' split) <;> omega
                        exact ⟨by rw [ev], by rw [ep]; skip⟩
                      · refine g_iload (q := 80) B dX8_figures_78 rfl 0 rfl ?_
                        refine g_iload (q := 82) B dX8_figures_80 rfl 8 rfl ?_
                        refine g_icmp_gt (t := 96) (q := 85) B dX8_figures_82 (by decide) rfl ⟨by omega, by omega⟩ ⟨by omega, by omega⟩ (fun cq82 => ?_) (fun cq82 => ?_)
                        · refine g_iconst (q := 97) B dX8_figures_96 rfl ?_
                          refine g_iret B E dX8_figures_97 ?_
                          have ev : (if b = -1 then -1 else fgV (S 83) (S 82 1) (S 82 3) dg lo hi) = -1 := by
                            unfold fgV
                            (repeat' split) <;> omega
                          have ep : (if b = -1 then S 82 3 else fgP (S 83) (S 82 1) (S 82 3) dg lo hi) = (S 82 3) + 1 := by
                            unfold fgP
                            (repeat' split) <;> omega
                          exact ⟨by rw [ev], by rw [ep]; skip⟩
                        · refine g_iload (q := 87) B dX8_figures_85 rfl 0 rfl ?_
                          refine g_iload (q := 89) B dX8_figures_87 rfl 2 rfl ?_
                          refine g_iadd (q := 90) B dX8_figures_89 rfl ?_
                          refine g_iconst (q := 91) B dX8_figures_90 rfl ?_
                          refine g_isub (q := 92) B dX8_figures_91 rfl ?_
                          refine g_iload_n (q := 93) B dX8_figures_92 rfl 7 rfl ?_
                          refine g_icmp_ge (t := 98) (q := 96) B dX8_figures_93 (by decide) rfl ⟨by omega, by omega⟩ ⟨by omega, by omega⟩ (fun cq93 => ?_) (fun cq93 => ?_)
                          · refine g_iload (q := 100) B dX8_figures_98 rfl 0 rfl ?_
                            refine g_istore (q := 102) B dX8_figures_100 rfl (by decide) (L' := [(5, .int (iI ((0 + ((-1) * 10)) + ((-1) * (10 / 10))))), (8, .int (iI ((0 + ((-1) * 10)) + ((-1) * (10 / 10))))), (7, .int (iI (-1))), (6, .int (iI (10 / 10))), (0, .ref (yA Y 82)), (1, .int (iI b)), (2, .int (iI dg)), (3, .int (iI lo)), (4, .int (iI hi))]) rfl ?_
                            refine g_aload_n (q := 103) B dX8_figures_102 rfl 4 rfl ?_
                            refine g_dup (q := 104) B dX8_figures_103 rfl rfl ?_
                            refine g_get (n := 82) (ty := tyX8) (q := 107) (v := .int (iI ((S 82 3) + 1))) B dX8_figures_104 rfl (us_eq _ _ _) rfl cls6 11 (by decide) w962 rfl ?_
                            refine g_iconst (q := 108) B dX8_figures_107 rfl ?_
                            refine g_iadd (q := 109) B dX8_figures_108 rfl ?_
                            refine g_put (n := 82) (ty := tyX8) (q := 112) B dX8_figures_109 rfl (us_eq _ _ _) rfl cls6 11 (by decide) w962 rfl rfl rfl (Nat.le_of_ble_eq_true rfl) ((uq ((uq (S 82) 3 ((S 82 3) + 1))) 3 (((S 82 3) + 1) + 1))) rfl ?_
                            refine g_eqS (us_us _ _ _ _) ?_
                            refine g_iload (q := 114) B dX8_figures_112 rfl 3 rfl ?_
                            refine g_bipush (q := 116) B dX8_figures_114 rfl (by decide) ?_
                            refine g_idiv (q := 117) B dX8_figures_116 rfl (by omega) (by omega) (by omega) (by omega) ?_
                            refine g_istore (q := 119) B dX8_figures_117 rfl (by decide) (L' := [(6, .int (iI ((10 / 10) / 10))), (5, .int (iI ((0 + ((-1) * 10)) + ((-1) * (10 / 10))))), (8, .int (iI ((0 + ((-1) * 10)) + ((-1) * (10 / 10))))), (7, .int (iI (-1))), (0, .ref (yA Y 82)), (1, .int (iI b)), (2, .int (iI dg)), (3, .int (iI lo)), (4, .int (iI hi))]) rfl ?_
                            refine g_goto (q := 16) B dX8_figures_119 (by decide) ?_
                            refine g_iload (q := 18) B dX8_figures_16 rfl 0 rfl ?_
                            refine g_if_le (t := 122) (q := 21) B dX8_figures_18 (by decide) rfl ⟨by omega, by omega⟩ (fun cq18 => ?_) (fun cq18 => ?_)
                            · refine g_iload_n (q := 123) B dX8_figures_122 rfl 5 rfl ?_
                              refine g_iconst (q := 124) B dX8_figures_123 rfl ?_
                              refine g_icmp_ne (t := 131) (q := 127) B dX8_figures_124 (by decide) rfl ⟨by omega, by omega⟩ ⟨by omega, by omega⟩ (fun cq124 => ?_) (fun cq124 => ?_)
                              · refine g_iload (q := 133) B dX8_figures_131 rfl 1 rfl ?_
                                refine g_iret B E dX8_figures_133 ?_
                                have ev : (if b = -1 then -1 else fgV (S 83) (S 82 1) (S 82 3) dg lo hi) = (0 + ((-1) * 10)) + ((-1) * (10 / 10)) := by
                                  unfold fgV
                                  (repeat' split) <;> omega
                                have ep : (if b = -1 then S 82 3 else fgP (S 83) (S 82 1) (S 82 3) dg lo hi) = ((S 82 3) + 1) + 1 := by
                                  unfold fgP
                                  (repeat' split) <;> omega
                                exact ⟨by rw [ev], by rw [ep]; rw [uq_uq]⟩
                              · refine g_iconst (q := 128) B dX8_figures_127 rfl ?_
                                refine g_goto (q := 133) B dX8_figures_128 (by decide) ?_
                                refine g_iret B E dX8_figures_133 ?_
                                have ev : (if b = -1 then -1 else fgV (S 83) (S 82 1) (S 82 3) dg lo hi) = -1 := by
                                  unfold fgV
                                  (repeat' split) <;> omega
                                have ep : (if b = -1 then S 82 3 else fgP (S 83) (S 82 1) (S 82 3) dg lo hi) = ((S 82 3) + 1) + 1 := by
                                  unfold fgP
                                  (repeat' split) <;> omega
                                exact ⟨by rw [ev], by rw [ep]; rw [uq_uq]⟩
                            · exact absurd cq18 (by omega)
                          · refine g_iconst (q := 97) B dX8_figures_96 rfl ?_
                            refine g_iret B E dX8_figures_97 ?_
                            have ev : (if b = -1 then -1 else fgV (S 83) (S 82 1) (S 82 3) dg lo hi) = -1 := by
                              unfold fgV
                              (repeat' split) <;> omega
                            have ep : (if b = -1 then S 82 3 else fgP (S 83) (S 82 1) (S 82 3) dg lo hi) = (S 82 3) + 1 := by
                              unfold fgP
                              (repeat' split) <;> omega
                            exact ⟨by rw [ev], by rw [ep]; skip⟩
                    · refine g_aload_n (q := 38) B dX8_figures_37 rfl 4 rfl ?_
                      refine g_get (n := 82) (ty := tyX8) (q := 41) (v := .ref (yA Y 83)) B dX8_figures_38 rfl (us_eq _ _ _) rfl cls6 1 (by decide) w952 rfl ?_
                      refine g_aload_n (q := 42) B dX8_figures_41 rfl 4 rfl ?_
                      refine g_get (n := 82) (ty := tyX8) (q := 45) (v := .int (iI ((S 82 3) + 1))) B dX8_figures_42 rfl (us_eq _ _ _) rfl cls6 11 (by decide) w962 rfl ?_
                      refine g_iald (n := 83) (q := 46) B dX8_figures_45 rfl ((us_ne _ _ (by omega)).trans rfl) rfl (by decide) (by omega) (by omega) ?_
                      refine g_bipush (q := 48) B dX8_figures_46 rfl (by decide) ?_
                      refine g_isub (q := 49) B dX8_figures_48 rfl ?_
                      refine g_goto (q := 53) B dX8_figures_49 (by decide) ?_
                      refine g_istore (q := 55) B dX8_figures_53 rfl (by decide) (L' := [(7, .int (iI ((S 83 ((S 82 3) + 1)) - 48))), (6, .int (iI (10 / 10))), (5, .int (iI (0 + ((-1) * 10)))), (8, .int (iI (0 + ((-1) * 10)))), (0, .ref (yA Y 82)), (1, .int (iI b)), (2, .int (iI dg)), (3, .int (iI lo)), (4, .int (iI hi))]) rfl ?_
                      refine g_iload (q := 57) B dX8_figures_55 rfl 2 rfl ?_
                      refine g_iload (q := 59) B dX8_figures_57 rfl 0 rfl ?_
                      refine g_iload (q := 61) B dX8_figures_59 rfl 1 rfl ?_
                      refine g_imul (q := 62) B dX8_figures_61 rfl ?_
                      refine g_iadd (q := 63) B dX8_figures_62 rfl ?_
                      refine g_istore (q := 65) B dX8_figures_63 rfl (by decide) (L' := [(8, .int (iI ((0 + ((-1) * 10)) + (((S 83 ((S 82 3) + 1)) - 48) * (10 / 10))))), (7, .int (iI ((S 83 ((S 82 3) + 1)) - 48))), (6, .int (iI (10 / 10))), (5, .int (iI (0 + ((-1) * 10)))), (0, .ref (yA Y 82)), (1, .int (iI b)), (2, .int (iI dg)), (3, .int (iI lo)), (4, .int (iI hi))]) rfl ?_
                      refine g_iload (q := 67) B dX8_figures_65 rfl 1 rfl ?_
                      refine g_i2l (q := 68) B dX8_figures_67 rfl ⟨by omega, by omega⟩ ?_
                      refine g_lconst (z := 0) (q := 69) B dX8_figures_68 rfl rfl ?_
                      refine g_ldc2 (z := 9) (q := 72) B dX8_figures_69 rfl w1033 (by decide) ?_
                      refine g_callS (q := 75) (As := [.long (lI ((S 83 ((S 82 3) + 1)) - 48)), .long (lI 0), .long (lI 9)]) (st := []) B dX8_figures_72 rfl (c_X8_in (l := xL X) (S := (us S 82 ((uq (S 82) 3 ((S 82 3) + 1))))) ((S 83 ((S 82 3) + 1)) - 48) 0 9 ⟨by omega, by omega⟩ ⟨by omega, by omega⟩ ⟨by omega, by omega⟩) eX8_in w1001 (by decide) rfl rfl (Nat.le_of_ble_eq_true rfl) (g_kE ?_)
                      refine g_ifb_eq (t := 96) (q := 78) B dX8_figures_75 (by decide) rfl (fun cq75 => ?_) (fun cq75 => ?_)
                      · refine g_iconst (q := 97) B dX8_figures_96 rfl ?_
                        refine g_iret B E dX8_figures_97 ?_
                        have ev : (if b = -1 then -1 else fgV (S 83) (S 82 1) (S 82 3) dg lo hi) = -1 := by
                          unfold fgV
                          (repeat' split) <;> omega
                        have ep : (if b = -1 then S 82 3 else fgP (S 83) (S 82 1) (S 82 3) dg lo hi) = (S 82 3) + 1 := by
                          unfold fgP
                          (repeat' split) <;> omega
                        exact ⟨by rw [ev], by rw [ep]; skip⟩
                      · refine g_iload (q := 80) B dX8_figures_78 rfl 0 rfl ?_
                        refine g_iload (q := 82) B dX8_figures_80 rfl 8 rfl ?_
                        refine g_icmp_gt (t := 96) (q := 85) B dX8_figures_82 (by decide) rfl ⟨by omega, by omega⟩ ⟨by omega, by omega⟩ (fun cq82 => ?_) (fun cq82 => ?_)
                        · refine g_iconst (q := 97) B dX8_figures_96 rfl ?_
                          refine g_iret B E dX8_figures_97 ?_
                          have ev : (if b = -1 then -1 else fgV (S 83) (S 82 1) (S 82 3) dg lo hi) = -1 := by
                            unfold fgV
                            (repeat' split) <;> omega
                          have ep : (if b = -1 then S 82 3 else fgP (S 83) (S 82 1) (S 82 3) dg lo hi) = (S 82 3) + 1 := by
                            unfold fgP
                            (repeat' split) <;> omega
                          exact ⟨by rw [ev], by rw [ep]; skip⟩
                        · refine g_iload (q := 87) B dX8_figures_85 rfl 0 rfl ?_
                          refine g_iload (q := 89) B dX8_figures_87 rfl 2 rfl ?_
                          refine g_iadd (q := 90) B dX8_figures_89 rfl ?_
                          refine g_iconst (q := 91) B dX8_figures_90 rfl ?_
                          refine g_isub (q := 92) B dX8_figures_91 rfl ?_
                          refine g_iload_n (q := 93) B dX8_figures_92 rfl 7 rfl ?_
                          refine g_icmp_ge (t := 98) (q := 96) B dX8_figures_93 (by decide) rfl ⟨by omega, by omega⟩ ⟨by omega, by omega⟩ (fun cq93 => ?_) (fun cq93 => ?_)
                          · refine g_iload (q := 100) B dX8_figures_98 rfl 0 rfl ?_
                            refine g_istore (q := 102) B dX8_figures_100 rfl (by decide) (L' := [(5, .int (iI ((0 + ((-1) * 10)) + (((S 83 ((S 82 3) + 1)) - 48) * (10 / 10))))), (8, .int (iI ((0 + ((-1) * 10)) + (((S 83 ((S 82 3) + 1)) - 48) * (10 / 10))))), (7, .int (iI ((S 83 ((S 82 3) + 1)) - 48))), (6, .int (iI (10 / 10))), (0, .ref (yA Y 82)), (1, .int (iI b)), (2, .int (iI dg)), (3, .int (iI lo)), (4, .int (iI hi))]) rfl ?_
                            refine g_aload_n (q := 103) B dX8_figures_102 rfl 4 rfl ?_
                            refine g_dup (q := 104) B dX8_figures_103 rfl rfl ?_
                            refine g_get (n := 82) (ty := tyX8) (q := 107) (v := .int (iI ((S 82 3) + 1))) B dX8_figures_104 rfl (us_eq _ _ _) rfl cls6 11 (by decide) w962 rfl ?_
                            refine g_iconst (q := 108) B dX8_figures_107 rfl ?_
                            refine g_iadd (q := 109) B dX8_figures_108 rfl ?_
                            refine g_put (n := 82) (ty := tyX8) (q := 112) B dX8_figures_109 rfl (us_eq _ _ _) rfl cls6 11 (by decide) w962 rfl rfl rfl (Nat.le_of_ble_eq_true rfl) ((uq ((uq (S 82) 3 ((S 82 3) + 1))) 3 (((S 82 3) + 1) + 1))) rfl ?_
                            refine g_eqS (us_us _ _ _ _) ?_
                            refine g_iload (q := 114) B dX8_figures_112 rfl 3 rfl ?_
                            refine g_bipush (q := 116) B dX8_figures_114 rfl (by decide) ?_
                            refine g_idiv (q := 117) B dX8_figures_116 rfl (by omega) (by omega) (by omega) (by omega) ?_
                            refine g_istore (q := 119) B dX8_figures_117 rfl (by decide) (L' := [(6, .int (iI ((10 / 10) / 10))), (5, .int (iI ((0 + ((-1) * 10)) + (((S 83 ((S 82 3) + 1)) - 48) * (10 / 10))))), (8, .int (iI ((0 + ((-1) * 10)) + (((S 83 ((S 82 3) + 1)) - 48) * (10 / 10))))), (7, .int (iI ((S 83 ((S 82 3) + 1)) - 48))), (0, .ref (yA Y 82)), (1, .int (iI b)), (2, .int (iI dg)), (3, .int (iI lo)), (4, .int (iI hi))]) rfl ?_
                            refine g_goto (q := 16) B dX8_figures_119 (by decide) ?_
                            refine g_iload (q := 18) B dX8_figures_16 rfl 0 rfl ?_
                            refine g_if_le (t := 122) (q := 21) B dX8_figures_18 (by decide) rfl ⟨by omega, by omega⟩ (fun cq18 => ?_) (fun cq18 => ?_)
                            · refine g_iload_n (q := 123) B dX8_figures_122 rfl 5 rfl ?_
                              refine g_iconst (q := 124) B dX8_figures_123 rfl ?_
                              refine g_icmp_ne (t := 131) (q := 127) B dX8_figures_124 (by decide) rfl ⟨by omega, by omega⟩ ⟨by omega, by omega⟩ (fun cq124 => ?_) (fun cq124 => ?_)
                              · refine g_iload (q := 133) B dX8_figures_131 rfl 1 rfl ?_
                                refine g_iret B E dX8_figures_133 ?_
                                have ev : (if b = -1 then -1 else fgV (S 83) (S 82 1) (S 82 3) dg lo hi) = (0 + ((-1) * 10)) + (((S 83 ((S 82 3) + 1)) - 48) * (10 / 10)) := by
                                  unfold fgV
                                  (repeat' split) <;> omega
                                have ep : (if b = -1 then S 82 3 else fgP (S 83) (S 82 1) (S 82 3) dg lo hi) = ((S 82 3) + 1) + 1 := by
                                  unfold fgP
                                  (repeat' split) <;> omega
                                exact ⟨by rw [ev], by rw [ep]; rw [uq_uq]⟩
                              · refine g_iconst (q := 128) B dX8_figures_127 rfl ?_
                                refine g_goto (q := 133) B dX8_figures_128 (by decide) ?_
                                refine g_iret B E dX8_figures_133 ?_
                                have ev : (if b = -1 then -1 else fgV (S 83) (S 82 1) (S 82 3) dg lo hi) = -1 := by
                                  unfold fgV
                                  (repeat' split) <;> omega
                                have ep : (if b = -1 then S 82 3 else fgP (S 83) (S 82 1) (S 82 3) dg lo hi) = ((S 82 3) + 1) + 1 := by
                                  unfold fgP
                                  (repeat' split) <;> omega
                                exact ⟨by rw [ev], by rw [ep]; rw [uq_uq]⟩
                            · exact absurd cq18 (by omega)
                          · refine g_iconst (q := 97) B dX8_figures_96 rfl ?_
                            refine g_iret B E dX8_figures_97 ?_
                            have ev : (if b = -1 then -1 else fgV (S 83) (S 82 1) (S 82 3) dg lo hi) = -1 := by
                              unfold fgV
                              (repeat' split) <;> omega
                            have ep : (if b = -1 then S 82 3 else fgP (S 83) (S 82 1) (S 82 3) dg lo hi) = (S 82 3) + 1 := by
                              unfold fgP
                              (repeat' split) <;> omega
                            exact ⟨by rw [ev], by rw [ep]; skip⟩
              · refine g_iconst (q := 97) B dX8_figures_96 rfl ?_
                refine g_iret B E dX8_figures_97 ?_
                have ev : (if b = -1 then -1 else fgV (S 83) (S 82 1) (S 82 3) dg lo hi) = -1 := by
                  unfold fgV
                  (repeat' split) <;> omega
                have ep : (if b = -1 then S 82 3 else fgP (S 83) (S 82 1) (S 82 3) dg lo hi) = S 82 3 := by
                  unfold fgP
                  (repeat' split) <;> omega
                exact ⟨by rw [ev], by rw [ep]; exact (by rw [uq_self]; exact (us_id S 82).symm)⟩
        · refine g_aload_n (q := 38) B dX8_figures_37 rfl 2 rfl ?_
          refine g_get (n := 82) (ty := tyX8) (q := 41) (v := .ref (yA Y 83)) B dX8_figures_38 rfl rfl rfl cls6 1 (by decide) w952 rfl ?_
          refine g_aload_n (q := 42) B dX8_figures_41 rfl 2 rfl ?_
          refine g_get (n := 82) (ty := tyX8) (q := 45) (v := .int (iI (S 82 3))) B dX8_figures_42 rfl rfl rfl cls6 11 (by decide) w962 rfl ?_
          refine g_iald (n := 83) (q := 46) B dX8_figures_45 rfl rfl rfl (by decide) (by omega) (by omega) ?_
          refine g_bipush (q := 48) B dX8_figures_46 rfl (by decide) ?_
          refine g_isub (q := 49) B dX8_figures_48 rfl ?_
          refine g_goto (q := 53) B dX8_figures_49 (by decide) ?_
          refine g_istore (q := 55) B dX8_figures_53 rfl (by decide) (L' := [(7, .int (iI ((S 83 (S 82 3)) - 48))), (6, .int (iI 10)), (5, .int (iI 0)), (0, .ref (yA Y 82)), (1, .int (iI b)), (2, .int (iI dg)), (3, .int (iI lo)), (4, .int (iI hi))]) rfl ?_
          refine g_iload (q := 57) B dX8_figures_55 rfl 2 rfl ?_
          refine g_iload (q := 59) B dX8_figures_57 rfl 0 rfl ?_
          refine g_iload (q := 61) B dX8_figures_59 rfl 1 rfl ?_
          refine g_imul (q := 62) B dX8_figures_61 rfl ?_
          refine g_iadd (q := 63) B dX8_figures_62 rfl ?_
          refine g_istore (q := 65) B dX8_figures_63 rfl (by decide) (L' := [(8, .int (iI (0 + (((S 83 (S 82 3)) - 48) * 10)))), (7, .int (iI ((S 83 (S 82 3)) - 48))), (6, .int (iI 10)), (5, .int (iI 0)), (0, .ref (yA Y 82)), (1, .int (iI b)), (2, .int (iI dg)), (3, .int (iI lo)), (4, .int (iI hi))]) rfl ?_
          refine g_iload (q := 67) B dX8_figures_65 rfl 1 rfl ?_
          refine g_i2l (q := 68) B dX8_figures_67 rfl ⟨by omega, by omega⟩ ?_
          refine g_lconst (z := 0) (q := 69) B dX8_figures_68 rfl rfl ?_
          refine g_ldc2 (z := 9) (q := 72) B dX8_figures_69 rfl w1033 (by decide) ?_
          refine g_callS (q := 75) (As := [.long (lI ((S 83 (S 82 3)) - 48)), .long (lI 0), .long (lI 9)]) (st := []) B dX8_figures_72 rfl (c_X8_in (l := xL X) (S := S) ((S 83 (S 82 3)) - 48) 0 9 ⟨by omega, by omega⟩ ⟨by omega, by omega⟩ ⟨by omega, by omega⟩) eX8_in w1001 (by decide) rfl rfl (Nat.le_of_ble_eq_true rfl) (g_kE ?_)
          refine g_ifb_eq (t := 96) (q := 78) B dX8_figures_75 (by decide) rfl (fun cq75 => ?_) (fun cq75 => ?_)
          · refine g_iconst (q := 97) B dX8_figures_96 rfl ?_
            refine g_iret B E dX8_figures_97 ?_
            have ev : (if b = -1 then -1 else fgV (S 83) (S 82 1) (S 82 3) dg lo hi) = -1 := by
              unfold fgV
              (repeat' split) <;> omega
            have ep : (if b = -1 then S 82 3 else fgP (S 83) (S 82 1) (S 82 3) dg lo hi) = S 82 3 := by
              unfold fgP
              (repeat' split) <;> omega
            exact ⟨by rw [ev], by rw [ep]; exact (by rw [uq_self]; exact (us_id S 82).symm)⟩
          · refine g_iload (q := 80) B dX8_figures_78 rfl 0 rfl ?_
            refine g_iload (q := 82) B dX8_figures_80 rfl 8 rfl ?_
            refine g_icmp_gt (t := 96) (q := 85) B dX8_figures_82 (by decide) rfl ⟨by omega, by omega⟩ ⟨by omega, by omega⟩ (fun cq82 => ?_) (fun cq82 => ?_)
            · refine g_iconst (q := 97) B dX8_figures_96 rfl ?_
              refine g_iret B E dX8_figures_97 ?_
              have ev : (if b = -1 then -1 else fgV (S 83) (S 82 1) (S 82 3) dg lo hi) = -1 := by
                unfold fgV
                (repeat' split) <;> omega
              have ep : (if b = -1 then S 82 3 else fgP (S 83) (S 82 1) (S 82 3) dg lo hi) = S 82 3 := by
                unfold fgP
                (repeat' split) <;> omega
              exact ⟨by rw [ev], by rw [ep]; exact (by rw [uq_self]; exact (us_id S 82).symm)⟩
            · refine g_iload (q := 87) B dX8_figures_85 rfl 0 rfl ?_
              refine g_iload (q := 89) B dX8_figures_87 rfl 2 rfl ?_
              refine g_iadd (q := 90) B dX8_figures_89 rfl ?_
              refine g_iconst (q := 91) B dX8_figures_90 rfl ?_
              refine g_isub (q := 92) B dX8_figures_91 rfl ?_
              refine g_iload_n (q := 93) B dX8_figures_92 rfl 7 rfl ?_
              refine g_icmp_ge (t := 98) (q := 96) B dX8_figures_93 (by decide) rfl ⟨by omega, by omega⟩ ⟨by omega, by omega⟩ (fun cq93 => ?_) (fun cq93 => ?_)
              · refine g_iload (q := 100) B dX8_figures_98 rfl 0 rfl ?_
                refine g_istore (q := 102) B dX8_figures_100 rfl (by decide) (L' := [(5, .int (iI (0 + (((S 83 (S 82 3)) - 48) * 10)))), (8, .int (iI (0 + (((S 83 (S 82 3)) - 48) * 10)))), (7, .int (iI ((S 83 (S 82 3)) - 48))), (6, .int (iI 10)), (0, .ref (yA Y 82)), (1, .int (iI b)), (2, .int (iI dg)), (3, .int (iI lo)), (4, .int (iI hi))]) rfl ?_
                refine g_aload_n (q := 103) B dX8_figures_102 rfl 4 rfl ?_
                refine g_dup (q := 104) B dX8_figures_103 rfl rfl ?_
                refine g_get (n := 82) (ty := tyX8) (q := 107) (v := .int (iI (S 82 3))) B dX8_figures_104 rfl rfl rfl cls6 11 (by decide) w962 rfl ?_
                refine g_iconst (q := 108) B dX8_figures_107 rfl ?_
                refine g_iadd (q := 109) B dX8_figures_108 rfl ?_
                refine g_put (n := 82) (ty := tyX8) (q := 112) B dX8_figures_109 rfl rfl rfl cls6 11 (by decide) w962 rfl rfl rfl (Nat.le_of_ble_eq_true rfl) ((uq (S 82) 3 ((S 82 3) + 1))) rfl ?_
                refine g_iload (q := 114) B dX8_figures_112 rfl 3 rfl ?_
                refine g_bipush (q := 116) B dX8_figures_114 rfl (by decide) ?_
                refine g_idiv (q := 117) B dX8_figures_116 rfl (by omega) (by omega) (by omega) (by omega) ?_
                refine g_istore (q := 119) B dX8_figures_117 rfl (by decide) (L' := [(6, .int (iI (10 / 10))), (5, .int (iI (0 + (((S 83 (S 82 3)) - 48) * 10)))), (8, .int (iI (0 + (((S 83 (S 82 3)) - 48) * 10)))), (7, .int (iI ((S 83 (S 82 3)) - 48))), (0, .ref (yA Y 82)), (1, .int (iI b)), (2, .int (iI dg)), (3, .int (iI lo)), (4, .int (iI hi))]) rfl ?_
                refine g_goto (q := 16) B dX8_figures_119 (by decide) ?_
                refine g_iload (q := 18) B dX8_figures_16 rfl 0 rfl ?_
                refine g_if_le (t := 122) (q := 21) B dX8_figures_18 (by decide) rfl ⟨by omega, by omega⟩ (fun cq18 => ?_) (fun cq18 => ?_)
                · exact absurd cq18 (by omega)
                · refine g_iload_n (q := 22) B dX8_figures_21 rfl 5 rfl ?_
                  refine g_iconst (q := 23) B dX8_figures_22 rfl ?_
                  refine g_icmp_eq (t := 122) (q := 26) B dX8_figures_23 (by decide) rfl ⟨by omega, by omega⟩ ⟨by omega, by omega⟩ (fun cq23 => ?_) (fun cq23 => ?_)
                  · refine g_iload_n (q := 123) B dX8_figures_122 rfl 5 rfl ?_
                    refine g_iconst (q := 124) B dX8_figures_123 rfl ?_
                    refine g_icmp_ne (t := 131) (q := 127) B dX8_figures_124 (by decide) rfl ⟨by omega, by omega⟩ ⟨by omega, by omega⟩ (fun cq124 => ?_) (fun cq124 => ?_)
                    · refine g_iload (q := 133) B dX8_figures_131 rfl 1 rfl ?_
                      refine g_iret B E dX8_figures_133 ?_
                      have ev : (if b = -1 then -1 else fgV (S 83) (S 82 1) (S 82 3) dg lo hi) = 0 + (((S 83 (S 82 3)) - 48) * 10) := by
                        unfold fgV
                        (repeat' split) <;> omega
                      have ep : (if b = -1 then S 82 3 else fgP (S 83) (S 82 1) (S 82 3) dg lo hi) = (S 82 3) + 1 := by
                        unfold fgP
                        (repeat' split) <;> omega
                      exact ⟨by rw [ev], by rw [ep]; skip⟩
                    · refine g_iconst (q := 128) B dX8_figures_127 rfl ?_
                      refine g_goto (q := 133) B dX8_figures_128 (by decide) ?_
                      refine g_iret B E dX8_figures_133 ?_
                      have ev : (if b = -1 then -1 else fgV (S 83) (S 82 1) (S 82 3) dg lo hi) = -1 := by
                        unfold fgV
                        (repeat' split) <;> omega
                      have ep : (if b = -1 then S 82 3 else fgP (S 83) (S 82 1) (S 82 3) dg lo hi) = (S 82 3) + 1 := by
                        unfold fgP
                        (repeat' split) <;> omega
                      exact ⟨by rw [ev], by rw [ep]; skip⟩
                  · refine g_aload_n (q := 27) B dX8_figures_26 rfl 4 rfl ?_
                    refine g_get (n := 82) (ty := tyX8) (q := 30) (v := .int (iI ((S 82 3) + 1))) B dX8_figures_27 rfl (us_eq _ _ _) rfl cls6 11 (by decide) w962 rfl ?_
                    refine g_aload_n (q := 31) B dX8_figures_30 rfl 4 rfl ?_
                    refine g_get (n := 82) (ty := tyX8) (q := 34) (v := .int (iI (S 82 1))) B dX8_figures_31 rfl (us_eq _ _ _) rfl cls6 2 (by decide) w953 rfl ?_
                    refine g_icmp_ge (t := 52) (q := 37) B dX8_figures_34 (by decide) rfl ⟨by omega, by omega⟩ ⟨by omega, by omega⟩ (fun cq34 => ?_) (fun cq34 => ?_)
                    · refine g_iconst (q := 53) B dX8_figures_52 rfl ?_
                      refine g_istore (q := 55) B dX8_figures_53 rfl (by decide) (L' := [(7, .int (iI (-1))), (6, .int (iI (10 / 10))), (5, .int (iI (0 + (((S 83 (S 82 3)) - 48) * 10)))), (8, .int (iI (0 + (((S 83 (S 82 3)) - 48) * 10)))), (0, .ref (yA Y 82)), (1, .int (iI b)), (2, .int (iI dg)), (3, .int (iI lo)), (4, .int (iI hi))]) rfl ?_
                      refine g_iload (q := 57) B dX8_figures_55 rfl 2 rfl ?_
                      refine g_iload (q := 59) B dX8_figures_57 rfl 0 rfl ?_
                      refine g_iload (q := 61) B dX8_figures_59 rfl 1 rfl ?_
                      refine g_imul (q := 62) B dX8_figures_61 rfl ?_
                      refine g_iadd (q := 63) B dX8_figures_62 rfl ?_
                      refine g_istore (q := 65) B dX8_figures_63 rfl (by decide) (L' := [(8, .int (iI ((0 + (((S 83 (S 82 3)) - 48) * 10)) + ((-1) * (10 / 10))))), (7, .int (iI (-1))), (6, .int (iI (10 / 10))), (5, .int (iI (0 + (((S 83 (S 82 3)) - 48) * 10)))), (0, .ref (yA Y 82)), (1, .int (iI b)), (2, .int (iI dg)), (3, .int (iI lo)), (4, .int (iI hi))]) rfl ?_
                      refine g_iload (q := 67) B dX8_figures_65 rfl 1 rfl ?_
                      refine g_i2l (q := 68) B dX8_figures_67 rfl ⟨by omega, by omega⟩ ?_
                      refine g_lconst (z := 0) (q := 69) B dX8_figures_68 rfl rfl ?_
                      refine g_ldc2 (z := 9) (q := 72) B dX8_figures_69 rfl w1033 (by decide) ?_
                      refine g_callS (q := 75) (As := [.long (lI (-1)), .long (lI 0), .long (lI 9)]) (st := []) B dX8_figures_72 rfl (c_X8_in (l := xL X) (S := (us S 82 ((uq (S 82) 3 ((S 82 3) + 1))))) (-1) 0 9 ⟨by omega, by omega⟩ ⟨by omega, by omega⟩ ⟨by omega, by omega⟩) eX8_in w1001 (by decide) rfl rfl (Nat.le_of_ble_eq_true rfl) (g_kE ?_)
                      refine g_ifb_eq (t := 96) (q := 78) B dX8_figures_75 (by decide) rfl (fun cq75 => ?_) (fun cq75 => ?_)
                      · refine g_iconst (q := 97) B dX8_figures_96 rfl ?_
                        refine g_iret B E dX8_figures_97 ?_
                        have ev : (if b = -1 then -1 else fgV (S 83) (S 82 1) (S 82 3) dg lo hi) = -1 := by
                          unfold fgV
                          (repeat' split) <;> omega
                        have ep : (if b = -1 then S 82 3 else fgP (S 83) (S 82 1) (S 82 3) dg lo hi) = (S 82 3) + 1 := by
                          unfold fgP
                          (repeat' split) <;> omega
                        exact ⟨by rw [ev], by rw [ep]; skip⟩
                      · refine g_iload (q := 80) B dX8_figures_78 rfl 0 rfl ?_
                        refine g_iload (q := 82) B dX8_figures_80 rfl 8 rfl ?_
                        refine g_icmp_gt (t := 96) (q := 85) B dX8_figures_82 (by decide) rfl ⟨by omega, by omega⟩ ⟨by omega, by omega⟩ (fun cq82 => ?_) (fun cq82 => ?_)
                        · refine g_iconst (q := 97) B dX8_figures_96 rfl ?_
                          refine g_iret B E dX8_figures_97 ?_
                          have ev : (if b = -1 then -1 else fgV (S 83) (S 82 1) (S 82 3) dg lo hi) = -1 := by
                            unfold fgV
                            (repeat' split) <;> omega
                          have ep : (if b = -1 then S 82 3 else fgP (S 83) (S 82 1) (S 82 3) dg lo hi) = (S 82 3) + 1 := by
                            unfold fgP
                            (repeat' split) <;> omega
                          exact ⟨by rw [ev], by rw [ep]; skip⟩
                        · refine g_iload (q := 87) B dX8_figures_85 rfl 0 rfl ?_
                          refine g_iload (q := 89) B dX8_figures_87 rfl 2 rfl ?_
                          refine g_iadd (q := 90) B dX8_figures_89 rfl ?_
                          refine g_iconst (q := 91) B dX8_figures_90 rfl ?_
                          refine g_isub (q := 92) B dX8_figures_91 rfl ?_
                          refine g_iload_n (q := 93) B dX8_figures_92 rfl 7 rfl ?_
                          refine g_icmp_ge (t := 98) (q := 96) B dX8_figures_93 (by decide) rfl ⟨by omega, by omega⟩ ⟨by omega, by omega⟩ (fun cq93 => ?_) (fun cq93 => ?_)
                          · refine g_iload (q := 100) B dX8_figures_98 rfl 0 rfl ?_
                            refine g_istore (q := 102) B dX8_figures_100 rfl (by decide) (L' := [(5, .int (iI ((0 + (((S 83 (S 82 3)) - 48) * 10)) + ((-1) * (10 / 10))))), (8, .int (iI ((0 + (((S 83 (S 82 3)) - 48) * 10)) + ((-1) * (10 / 10))))), (7, .int (iI (-1))), (6, .int (iI (10 / 10))), (0, .ref (yA Y 82)), (1, .int (iI b)), (2, .int (iI dg)), (3, .int (iI lo)), (4, .int (iI hi))]) rfl ?_
                            refine g_aload_n (q := 103) B dX8_figures_102 rfl 4 rfl ?_
                            refine g_dup (q := 104) B dX8_figures_103 rfl rfl ?_
                            refine g_get (n := 82) (ty := tyX8) (q := 107) (v := .int (iI ((S 82 3) + 1))) B dX8_figures_104 rfl (us_eq _ _ _) rfl cls6 11 (by decide) w962 rfl ?_
                            refine g_iconst (q := 108) B dX8_figures_107 rfl ?_
                            refine g_iadd (q := 109) B dX8_figures_108 rfl ?_
                            refine g_put (n := 82) (ty := tyX8) (q := 112) B dX8_figures_109 rfl (us_eq _ _ _) rfl cls6 11 (by decide) w962 rfl rfl rfl (Nat.le_of_ble_eq_true rfl) ((uq ((uq (S 82) 3 ((S 82 3) + 1))) 3 (((S 82 3) + 1) + 1))) rfl ?_
                            refine g_eqS (us_us _ _ _ _) ?_
                            refine g_iload (q := 114) B dX8_figures_112 rfl 3 rfl ?_
                            refine g_bipush (q := 116) B dX8_figures_114 rfl (by decide) ?_
                            refine g_idiv (q := 117) B dX8_figures_116 rfl (by omega) (by omega) (by omega) (by omega) ?_
                            refine g_istore (q := 119) B dX8_figures_117 rfl (by decide) (L' := [(6, .int (iI ((10 / 10) / 10))), (5, .int (iI ((0 + (((S 83 (S 82 3)) - 48) * 10)) + ((-1) * (10 / 10))))), (8, .int (iI ((0 + (((S 83 (S 82 3)) - 48) * 10)) + ((-1) * (10 / 10))))), (7, .int (iI (-1))), (0, .ref (yA Y 82)), (1, .int (iI b)), (2, .int (iI dg)), (3, .int (iI lo)), (4, .int (iI hi))]) rfl ?_
                            refine g_goto (q := 16) B dX8_figures_119 (by decide) ?_
                            refine g_iload (q := 18) B dX8_figures_16 rfl 0 rfl ?_
                            refine g_if_le (t := 122) (q := 21) B dX8_figures_18 (by decide) rfl ⟨by omega, by omega⟩ (fun cq18 => ?_) (fun cq18 => ?_)
                            · refine g_iload_n (q := 123) B dX8_figures_122 rfl 5 rfl ?_
                              refine g_iconst (q := 124) B dX8_figures_123 rfl ?_
                              refine g_icmp_ne (t := 131) (q := 127) B dX8_figures_124 (by decide) rfl ⟨by omega, by omega⟩ ⟨by omega, by omega⟩ (fun cq124 => ?_) (fun cq124 => ?_)
                              · refine g_iload (q := 133) B dX8_figures_131 rfl 1 rfl ?_
                                refine g_iret B E dX8_figures_133 ?_
                                have ev : (if b = -1 then -1 else fgV (S 83) (S 82 1) (S 82 3) dg lo hi) = (0 + (((S 83 (S 82 3)) - 48) * 10)) + ((-1) * (10 / 10)) := by
                                  unfold fgV
                                  (repeat' split) <;> omega
                                have ep : (if b = -1 then S 82 3 else fgP (S 83) (S 82 1) (S 82 3) dg lo hi) = ((S 82 3) + 1) + 1 := by
                                  unfold fgP
                                  (repeat' split) <;> omega
                                exact ⟨by rw [ev], by rw [ep]; rw [uq_uq]⟩
                              · refine g_iconst (q := 128) B dX8_figures_127 rfl ?_
                                refine g_goto (q := 133) B dX8_figures_128 (by decide) ?_
                                refine g_iret B E dX8_figures_133 ?_
                                have ev : (if b = -1 then -1 else fgV (S 83) (S 82 1) (S 82 3) dg lo hi) = -1 := by
                                  unfold fgV
                                  (repeat' split) <;> omega
                                have ep : (if b = -1 then S 82 3 else fgP (S 83) (S 82 1) (S 82 3) dg lo hi) = ((S 82 3) + 1) + 1 := by
                                  unfold fgP
                                  (repeat' split) <;> omega
                                exact ⟨by rw [ev], by rw [ep]; rw [uq_uq]⟩
                            · exact absurd cq18 (by omega)
                          · refine g_iconst (q := 97) B dX8_figures_96 rfl ?_
                            refine g_iret B E dX8_figures_97 ?_
                            have ev : (if b = -1 then -1 else fgV (S 83) (S 82 1) (S 82 3) dg lo hi) = -1 := by
                              unfold fgV
                              (repeat' split) <;> omega
                            have ep : (if b = -1 then S 82 3 else fgP (S 83) (S 82 1) (S 82 3) dg lo hi) = (S 82 3) + 1 := by
                              unfold fgP
                              (repeat' split) <;> omega
                            exact ⟨by rw [ev], by rw [ep]; skip⟩
                    · refine g_aload_n (q := 38) B dX8_figures_37 rfl 4 rfl ?_
                      refine g_get (n := 82) (ty := tyX8) (q := 41) (v := .ref (yA Y 83)) B dX8_figures_38 rfl (us_eq _ _ _) rfl cls6 1 (by decide) w952 rfl ?_
                      refine g_aload_n (q := 42) B dX8_figures_41 rfl 4 rfl ?_
                      refine g_get (n := 82) (ty := tyX8) (q := 45) (v := .int (iI ((S 82 3) + 1))) B dX8_figures_42 rfl (us_eq _ _ _) rfl cls6 11 (by decide) w962 rfl ?_
                      refine g_iald (n := 83) (q := 46) B dX8_figures_45 rfl ((us_ne _ _ (by omega)).trans rfl) rfl (by decide) (by omega) (by omega) ?_
                      refine g_bipush (q := 48) B dX8_figures_46 rfl (by decide) ?_
                      refine g_isub (q := 49) B dX8_figures_48 rfl ?_
                      refine g_goto (q := 53) B dX8_figures_49 (by decide) ?_
                      refine g_istore (q := 55) B dX8_figures_53 rfl (by decide) (L' := [(7, .int (iI ((S 83 ((S 82 3) + 1)) - 48))), (6, .int (iI (10 / 10))), (5, .int (iI (0 + (((S 83 (S 82 3)) - 48) * 10)))), (8, .int (iI (0 + (((S 83 (S 82 3)) - 48) * 10)))), (0, .ref (yA Y 82)), (1, .int (iI b)), (2, .int (iI dg)), (3, .int (iI lo)), (4, .int (iI hi))]) rfl ?_
                      refine g_iload (q := 57) B dX8_figures_55 rfl 2 rfl ?_
                      refine g_iload (q := 59) B dX8_figures_57 rfl 0 rfl ?_
                      refine g_iload (q := 61) B dX8_figures_59 rfl 1 rfl ?_
                      refine g_imul (q := 62) B dX8_figures_61 rfl ?_
                      refine g_iadd (q := 63) B dX8_figures_62 rfl ?_
                      refine g_istore (q := 65) B dX8_figures_63 rfl (by decide) (L' := [(8, .int (iI ((0 + (((S 83 (S 82 3)) - 48) * 10)) + (((S 83 ((S 82 3) + 1)) - 48) * (10 / 10))))), (7, .int (iI ((S 83 ((S 82 3) + 1)) - 48))), (6, .int (iI (10 / 10))), (5, .int (iI (0 + (((S 83 (S 82 3)) - 48) * 10)))), (0, .ref (yA Y 82)), (1, .int (iI b)), (2, .int (iI dg)), (3, .int (iI lo)), (4, .int (iI hi))]) rfl ?_
                      refine g_iload (q := 67) B dX8_figures_65 rfl 1 rfl ?_
                      refine g_i2l (q := 68) B dX8_figures_67 rfl ⟨by omega, by omega⟩ ?_
                      refine g_lconst (z := 0) (q := 69) B dX8_figures_68 rfl rfl ?_
                      refine g_ldc2 (z := 9) (q := 72) B dX8_figures_69 rfl w1033 (by decide) ?_
                      refine g_callS (q := 75) (As := [.long (lI ((S 83 ((S 82 3) + 1)) - 48)), .long (lI 0), .long (lI 9)]) (st := []) B dX8_figures_72 rfl (c_X8_in (l := xL X) (S := (us S 82 ((uq (S 82) 3 ((S 82 3) + 1))))) ((S 83 ((S 82 3) + 1)) - 48) 0 9 ⟨by omega, by omega⟩ ⟨by omega, by omega⟩ ⟨by omega, by omega⟩) eX8_in w1001 (by decide) rfl rfl (Nat.le_of_ble_eq_true rfl) (g_kE ?_)
                      refine g_ifb_eq (t := 96) (q := 78) B dX8_figures_75 (by decide) rfl (fun cq75 => ?_) (fun cq75 => ?_)
                      · refine g_iconst (q := 97) B dX8_figures_96 rfl ?_
                        refine g_iret B E dX8_figures_97 ?_
                        have ev : (if b = -1 then -1 else fgV (S 83) (S 82 1) (S 82 3) dg lo hi) = -1 := by
                          unfold fgV
                          (repeat' split) <;> omega
                        have ep : (if b = -1 then S 82 3 else fgP (S 83) (S 82 1) (S 82 3) dg lo hi) = (S 82 3) + 1 := by
                          unfold fgP
                          (repeat' split) <;> omega
                        exact ⟨by rw [ev], by rw [ep]; skip⟩
                      · refine g_iload (q := 80) B dX8_figures_78 rfl 0 rfl ?_
                        refine g_iload (q := 82) B dX8_figures_80 rfl 8 rfl ?_
                        refine g_icmp_gt (t := 96) (q := 85) B dX8_figures_82 (by decide) rfl ⟨by omega, by omega⟩ ⟨by omega, by omega⟩ (fun cq82 => ?_) (fun cq82 => ?_)
                        · refine g_iconst (q := 97) B dX8_figures_96 rfl ?_
                          refine g_iret B E dX8_figures_97 ?_
                          have ev : (if b = -1 then -1 else fgV (S 83) (S 82 1) (S 82 3) dg lo hi) = -1 := by
                            unfold fgV
                            (repeat' split) <;> omega
                          have ep : (if b = -1 then S 82 3 else fgP (S 83) (S 82 1) (S 82 3) dg lo hi) = (S 82 3) + 1 := by
                            unfold fgP
                            (repeat' split) <;> omega
                          exact ⟨by rw [ev], by rw [ep]; skip⟩
                        · refine g_iload (q := 87) B dX8_figures_85 rfl 0 rfl ?_
                          refine g_iload (q := 89) B dX8_figures_87 rfl 2 rfl ?_
                          refine g_iadd (q := 90) B dX8_figures_89 rfl ?_
                          refine g_iconst (q := 91) B dX8_figures_90 rfl ?_
                          refine g_isub (q := 92) B dX8_figures_91 rfl ?_
                          refine g_iload_n (q := 93) B dX8_figures_92 rfl 7 rfl ?_
                          refine g_icmp_ge (t := 98) (q := 96) B dX8_figures_93 (by decide) rfl ⟨by omega, by omega⟩ ⟨by omega, by omega⟩ (fun cq93 => ?_) (fun cq93 => ?_)
                          · refine g_iload (q := 100) B dX8_figures_98 rfl 0 rfl ?_
                            refine g_istore (q := 102) B dX8_figures_100 rfl (by decide) (L' := [(5, .int (iI ((0 + (((S 83 (S 82 3)) - 48) * 10)) + (((S 83 ((S 82 3) + 1)) - 48) * (10 / 10))))), (8, .int (iI ((0 + (((S 83 (S 82 3)) - 48) * 10)) + (((S 83 ((S 82 3) + 1)) - 48) * (10 / 10))))), (7, .int (iI ((S 83 ((S 82 3) + 1)) - 48))), (6, .int (iI (10 / 10))), (0, .ref (yA Y 82)), (1, .int (iI b)), (2, .int (iI dg)), (3, .int (iI lo)), (4, .int (iI hi))]) rfl ?_
                            refine g_aload_n (q := 103) B dX8_figures_102 rfl 4 rfl ?_
                            refine g_dup (q := 104) B dX8_figures_103 rfl rfl ?_
                            refine g_get (n := 82) (ty := tyX8) (q := 107) (v := .int (iI ((S 82 3) + 1))) B dX8_figures_104 rfl (us_eq _ _ _) rfl cls6 11 (by decide) w962 rfl ?_
                            refine g_iconst (q := 108) B dX8_figures_107 rfl ?_
                            refine g_iadd (q := 109) B dX8_figures_108 rfl ?_
                            refine g_put (n := 82) (ty := tyX8) (q := 112) B dX8_figures_109 rfl (us_eq _ _ _) rfl cls6 11 (by decide) w962 rfl rfl rfl (Nat.le_of_ble_eq_true rfl) ((uq ((uq (S 82) 3 ((S 82 3) + 1))) 3 (((S 82 3) + 1) + 1))) rfl ?_
                            refine g_eqS (us_us _ _ _ _) ?_
                            refine g_iload (q := 114) B dX8_figures_112 rfl 3 rfl ?_
                            refine g_bipush (q := 116) B dX8_figures_114 rfl (by decide) ?_
                            refine g_idiv (q := 117) B dX8_figures_116 rfl (by omega) (by omega) (by omega) (by omega) ?_
                            refine g_istore (q := 119) B dX8_figures_117 rfl (by decide) (L' := [(6, .int (iI ((10 / 10) / 10))), (5, .int (iI ((0 + (((S 83 (S 82 3)) - 48) * 10)) + (((S 83 ((S 82 3) + 1)) - 48) * (10 / 10))))), (8, .int (iI ((0 + (((S 83 (S 82 3)) - 48) * 10)) + (((S 83 ((S 82 3) + 1)) - 48) * (10 / 10))))), (7, .int (iI ((S 83 ((S 82 3) + 1)) - 48))), (0, .ref (yA Y 82)), (1, .int (iI b)), (2, .int (iI dg)), (3, .int (iI lo)), (4, .int (iI hi))]) rfl ?_
                            refine g_goto (q := 16) B dX8_figures_119 (by decide) ?_
                            refine g_iload (q := 18) B dX8_figures_16 rfl 0 rfl ?_
                            refine g_if_le (t := 122) (q := 21) B dX8_figures_18 (by decide) rfl ⟨by omega, by omega⟩ (fun cq18 => ?_) (fun cq18 => ?_)
                            · refine g_iload_n (q := 123) B dX8_figures_122 rfl 5 rfl ?_
                              refine g_iconst (q := 124) B dX8_figures_123 rfl ?_
                              refine g_icmp_ne (t := 131) (q := 127) B dX8_figures_124 (by decide) rfl ⟨by omega, by omega⟩ ⟨by omega, by omega⟩ (fun cq124 => ?_) (fun cq124 => ?_)
                              · refine g_iload (q := 133) B dX8_figures_131 rfl 1 rfl ?_
                                refine g_iret B E dX8_figures_133 ?_
                                have ev : (if b = -1 then -1 else fgV (S 83) (S 82 1) (S 82 3) dg lo hi) = (0 + (((S 83 (S 82 3)) - 48) * 10)) + (((S 83 ((S 82 3) + 1)) - 48) * (10 / 10)) := by
                                  unfold fgV
                                  (repeat' split) <;> omega
                                have ep : (if b = -1 then S 82 3 else fgP (S 83) (S 82 1) (S 82 3) dg lo hi) = ((S 82 3) + 1) + 1 := by
                                  unfold fgP
                                  (repeat' split) <;> omega
                                exact ⟨by rw [ev], by rw [ep]; rw [uq_uq]⟩
                              · refine g_iconst (q := 128) B dX8_figures_127 rfl ?_
                                refine g_goto (q := 133) B dX8_figures_128 (by decide) ?_
                                refine g_iret B E dX8_figures_133 ?_
                                have ev : (if b = -1 then -1 else fgV (S 83) (S 82 1) (S 82 3) dg lo hi) = -1 := by
                                  unfold fgV
                                  (repeat' split) <;> omega
                                have ep : (if b = -1 then S 82 3 else fgP (S 83) (S 82 1) (S 82 3) dg lo hi) = ((S 82 3) + 1) + 1 := by
                                  unfold fgP
                                  (repeat' split) <;> omega
                                exact ⟨by rw [ev], by rw [ep]; rw [uq_uq]⟩
                            · exact absurd cq18 (by omega)
                          · refine g_iconst (q := 97) B dX8_figures_96 rfl ?_
                            refine g_iret B E dX8_figures_97 ?_
                            have ev : (if b = -1 then -1 else fgV (S 83) (S 82 1) (S 82 3) dg lo hi) = -1 := by
                              unfold fgV
                              (repeat' split) <;> omega
                            have ep : (if b = -1 then S 82 3 else fgP (S 83) (S 82 1) (S 82 3) dg lo hi) = (S 82 3) + 1 := by
                              unfold fgP
                              (repeat' split) <;> omega
                            exact ⟨by rw [ev], by rw [ep]; skip⟩
              · refine g_iconst (q := 97) B dX8_figures_96 rfl ?_
                refine g_iret B E dX8_figures_97 ?_
                have ev : (if b = -1 then -1 else fgV (S 83) (S 82 1) (S 82 3) dg lo hi) = -1 := by
                  unfold fgV
                  (repeat' split) <;> omega
                have ep : (if b = -1 then S 82 3 else fgP (S 83) (S 82 1) (S 82 3) dg lo hi) = S 82 3 := by
                  unfold fgP
                  (repeat' split) <;> omega
                exact ⟨by rw [ev], by rw [ep]; exact (by rw [uq_self]; exact (us_id S 82).symm)⟩
