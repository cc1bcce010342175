set_option maxHeartbeats 4000000 in
theorem c_J6_numberOfTrailingZeros_0f7a4 {Y : gY} {l : Launch} {S : SS} (x : Nat) (h0 : 1 ≤ x) (h1 : x < 65536) : gM Y l mJ6_numberOfTrailingZeros_0f7a4 S [.int (iI ((x : Int)))] (pV (.int (iI (tzR x : Nat))) (fun S' => S' = S)) := by
  refine gM_of (by decide) (Nat.le_of_ble_eq_true rfl) ?_
  intro X hXl B E
  have htz := tzI_lt h1
  show gW Y X S 0 [(0, .int (iI ((x : Int))))] []
  refine g_iload_n (q := 1) B dJ6_numberOfTrailingZeros_0f7a4_0 rfl 0 rfl ?_
  refine g_iconst (q := 2) B dJ6_numberOfTrailingZeros_0f7a4_1 rfl ?_
  refine g_ixor (v := (iI (x : Int) ^^^ iI (-1))) (q := 3) B dJ6_numberOfTrailingZeros_0f7a4_2 rfl (rfl) ?_
  refine g_iload_n (q := 4) B dJ6_numberOfTrailingZeros_0f7a4_3 rfl 0 rfl ?_
  refine g_iconst (q := 5) B dJ6_numberOfTrailingZeros_0f7a4_4 rfl ?_
  refine g_isub (q := 6) B dJ6_numberOfTrailingZeros_0f7a4_5 rfl ?_
  refine g_iand (v := (iI (((tzI x : Nat) : Int)))) (q := 7) B dJ6_numberOfTrailingZeros_0f7a4_6 rfl (tz_and h0) ?_
  refine g_istore_n (q := 8) B dJ6_numberOfTrailingZeros_0f7a4_7 rfl (by decide) (L' := [(0, .int (iI (((tzI x : Nat) : Int))))]) rfl ?_
  refine g_iload_n (q := 9) B dJ6_numberOfTrailingZeros_0f7a4_8 rfl 0 rfl ?_
  refine g_if_gt (t := 17) (q := 12) B dJ6_numberOfTrailingZeros_0f7a4_9 (by decide) rfl ⟨by omega, by omega⟩ (fun cq9 => ?_) (fun cq9 => ?_)
  · refine g_iconst (q := 18) B dJ6_numberOfTrailingZeros_0f7a4_17 rfl ?_
    refine g_istore_n (q := 19) B dJ6_numberOfTrailingZeros_0f7a4_18 rfl (by decide) (L' := [(1, .int (iI 1)), (0, .int (iI (((tzI x : Nat) : Int))))]) rfl ?_
    refine g_iload_n (q := 20) B dJ6_numberOfTrailingZeros_0f7a4_19 rfl 1 rfl ?_
    refine g_ldcw (z := 65536) (q := 23) B dJ6_numberOfTrailingZeros_0f7a4_20 rfl w776 (by decide) ?_
    refine g_icmp_le (t := 34) (q := 26) B dJ6_numberOfTrailingZeros_0f7a4_23 (by decide) rfl ⟨by omega, by omega⟩ ⟨by omega, by omega⟩ (fun cq23 => ?_) (fun cq23 => ?_)
    · refine g_iload_n (q := 35) B dJ6_numberOfTrailingZeros_0f7a4_34 rfl 1 rfl ?_
      refine g_sipush (q := 38) B dJ6_numberOfTrailingZeros_0f7a4_35 rfl (by decide) ?_
      refine g_icmp_le (t := 49) (q := 41) B dJ6_numberOfTrailingZeros_0f7a4_38 (by decide) rfl ⟨by omega, by omega⟩ ⟨by omega, by omega⟩ (fun cq38 => ?_) (fun cq38 => ?_)
      · refine g_iload_n (q := 50) B dJ6_numberOfTrailingZeros_0f7a4_49 rfl 1 rfl ?_
        refine g_bipush (q := 52) B dJ6_numberOfTrailingZeros_0f7a4_50 rfl (by decide) ?_
        refine g_icmp_le (t := 62) (q := 55) B dJ6_numberOfTrailingZeros_0f7a4_52 (by decide) rfl ⟨by omega, by omega⟩ ⟨by omega, by omega⟩ (fun cq52 => ?_) (fun cq52 => ?_)
        · refine g_iload_n (q := 63) B dJ6_numberOfTrailingZeros_0f7a4_62 rfl 1 rfl ?_
          refine g_iconst (q := 64) B dJ6_numberOfTrailingZeros_0f7a4_63 rfl ?_
          refine g_icmp_le (t := 74) (q := 67) B dJ6_numberOfTrailingZeros_0f7a4_64 (by decide) rfl ⟨by omega, by omega⟩ ⟨by omega, by omega⟩ (fun cq64 => ?_) (fun cq64 => ?_)
          · refine g_iload_n (q := 75) B dJ6_numberOfTrailingZeros_0f7a4_74 rfl 0 rfl ?_
            refine g_iload_n (q := 76) B dJ6_numberOfTrailingZeros_0f7a4_75 rfl 1 rfl ?_
            refine g_iconst (q := 77) B dJ6_numberOfTrailingZeros_0f7a4_76 rfl ?_
            refine g_iushr (v := (iI (((tzI x / 2 : Nat) : Int)))) (q := 78) B dJ6_numberOfTrailingZeros_0f7a4_77 rfl (iI_ushrN (k := 1) (by omega) (by decide)) ?_
            refine g_iadd (q := 79) B dJ6_numberOfTrailingZeros_0f7a4_78 rfl ?_
            refine g_iret B E dJ6_numberOfTrailingZeros_0f7a4_79 ?_
            have e : ((tzR x : Nat) : Int) = 1 + (((tzI x / 2 : Nat) : Int)) := by
              unfold tzR tzA tzB tzC
              (repeat' split) <;> omega
            exact ⟨by rw [e], rfl⟩
          · refine g_iinc (n := 0) (q := 70) B dJ6_numberOfTrailingZeros_0f7a4_67 rfl rfl (by decide) (L' := [(1, .int (iI (1 + 2))), (0, .int (iI (((tzI x : Nat) : Int))))]) rfl ?_
            refine g_iload_n (q := 71) B dJ6_numberOfTrailingZeros_0f7a4_70 rfl 1 rfl ?_
            refine g_iconst (q := 72) B dJ6_numberOfTrailingZeros_0f7a4_71 rfl ?_
            refine g_iushr (v := (iI (((tzI x / 4 : Nat) : Int)))) (q := 73) B dJ6_numberOfTrailingZeros_0f7a4_72 rfl (iI_ushrN (k := 2) (by omega) (by decide)) ?_
            refine g_istore_n (q := 74) B dJ6_numberOfTrailingZeros_0f7a4_73 rfl (by decide) (L' := [(0, .int (iI (((tzI x / 4 : Nat) : Int)))), (1, .int (iI (1 + 2)))]) rfl ?_
            refine g_iload_n (q := 75) B dJ6_numberOfTrailingZeros_0f7a4_74 rfl 1 rfl ?_
            refine g_iload_n (q := 76) B dJ6_numberOfTrailingZeros_0f7a4_75 rfl 0 rfl ?_
            refine g_iconst (q := 77) B dJ6_numberOfTrailingZeros_0f7a4_76 rfl ?_
            refine g_iushr (v := (iI (((tzI x / 4 / 2 : Nat) : Int)))) (q := 78) B dJ6_numberOfTrailingZeros_0f7a4_77 rfl (iI_ushrN (k := 1) (by omega) (by decide)) ?_
            refine g_iadd (q := 79) B dJ6_numberOfTrailingZeros_0f7a4_78 rfl ?_
            refine g_iret B E dJ6_numberOfTrailingZeros_0f7a4_79 ?_
            have e : ((tzR x : Nat) : Int) = (1 + 2) + (((tzI x / 4 / 2 : Nat) : Int)) := by
              unfold tzR tzA tzB tzC
              (repeat' split) <;> omega
            exact ⟨by rw [e], rfl⟩
        · refine g_iinc (n := 0) (q := 58) B dJ6_numberOfTrailingZeros_0f7a4_55 rfl rfl (by decide) (L' := [(1, .int (iI (1 + 4))), (0, .int (iI (((tzI x : Nat) : Int))))]) rfl ?_
          refine g_iload_n (q := 59) B dJ6_numberOfTrailingZeros_0f7a4_58 rfl 1 rfl ?_
          refine g_iconst (q := 60) B dJ6_numberOfTrailingZeros_0f7a4_59 rfl ?_
          refine g_iushr (v := (iI (((tzI x / 16 : Nat) : Int)))) (q := 61) B dJ6_numberOfTrailingZeros_0f7a4_60 rfl (iI_ushrN (k := 4) (by omega) (by decide)) ?_
          refine g_istore_n (q := 62) B dJ6_numberOfTrailingZeros_0f7a4_61 rfl (by decide) (L' := [(0, .int (iI (((tzI x / 16 : Nat) : Int)))), (1, .int (iI (1 + 4)))]) rfl ?_
          refine g_iload_n (q := 63) B dJ6_numberOfTrailingZeros_0f7a4_62 rfl 0 rfl ?_
          refine g_iconst (q := 64) B dJ6_numberOfTrailingZeros_0f7a4_63 rfl ?_
          refine g_icmp_le (t := 74) (q := 67) B dJ6_numberOfTrailingZeros_0f7a4_64 (by decide) rfl ⟨by omega, by omega⟩ ⟨by omega, by omega⟩ (fun cq64 => ?_) (fun cq64 => ?_)
          · refine g_iload_n (q := 75) B dJ6_numberOfTrailingZeros_0f7a4_74 rfl 1 rfl ?_
            refine g_iload_n (q := 76) B dJ6_numberOfTrailingZeros_0f7a4_75 rfl 0 rfl ?_
            refine g_iconst (q := 77) B dJ6_numberOfTrailingZeros_0f7a4_76 rfl ?_
            refine g_iushr (v := (iI (((tzI x / 16 / 2 : Nat) : Int)))) (q := 78) B dJ6_numberOfTrailingZeros_0f7a4_77 rfl (iI_ushrN (k := 1) (by omega) (by decide)) ?_
            refine g_iadd (q := 79) B dJ6_numberOfTrailingZeros_0f7a4_78 rfl ?_
            refine g_iret B E dJ6_numberOfTrailingZeros_0f7a4_79 ?_
            have e : ((tzR x : Nat) : Int) = (1 + 4) + (((tzI x / 16 / 2 : Nat) : Int)) := by
              unfold tzR tzA tzB tzC
              (repeat' split) <;> omega
            exact ⟨by rw [e], rfl⟩
          · refine g_iinc (n := 1) (q := 70) B dJ6_numberOfTrailingZeros_0f7a4_67 rfl rfl (by decide) (L' := [(1, .int (iI (1 + 4 + 2))), (0, .int (iI (((tzI x / 16 : Nat) : Int))))]) rfl ?_
            refine g_iload_n (q := 71) B dJ6_numberOfTrailingZeros_0f7a4_70 rfl 1 rfl ?_
            refine g_iconst (q := 72) B dJ6_numberOfTrailingZeros_0f7a4_71 rfl ?_
            refine g_iushr (v := (iI (((tzI x / 16 / 4 : Nat) : Int)))) (q := 73) B dJ6_numberOfTrailingZeros_0f7a4_72 rfl (iI_ushrN (k := 2) (by omega) (by decide)) ?_
            refine g_istore_n (q := 74) B dJ6_numberOfTrailingZeros_0f7a4_73 rfl (by decide) (L' := [(0, .int (iI (((tzI x / 16 / 4 : Nat) : Int)))), (1, .int (iI (1 + 4 + 2)))]) rfl ?_
            refine g_iload_n (q := 75) B dJ6_numberOfTrailingZeros_0f7a4_74 rfl 1 rfl ?_
            refine g_iload_n (q := 76) B dJ6_numberOfTrailingZeros_0f7a4_75 rfl 0 rfl ?_
            refine g_iconst (q := 77) B dJ6_numberOfTrailingZeros_0f7a4_76 rfl ?_
            refine g_iushr (v := (iI (((tzI x / 16 / 4 / 2 : Nat) : Int)))) (q := 78) B dJ6_numberOfTrailingZeros_0f7a4_77 rfl (iI_ushrN (k := 1) (by omega) (by decide)) ?_
            refine g_iadd (q := 79) B dJ6_numberOfTrailingZeros_0f7a4_78 rfl ?_
            refine g_iret B E dJ6_numberOfTrailingZeros_0f7a4_79 ?_
            have e : ((tzR x : Nat) : Int) = (1 + 4 + 2) + (((tzI x / 16 / 4 / 2 : Nat) : Int)) := by
              unfold tzR tzA tzB tzC
              (repeat' split) <;> omega
            exact ⟨by rw [e], rfl⟩
      · refine g_iinc (n := 0) (q := 44) B dJ6_numberOfTrailingZeros_0f7a4_41 rfl rfl (by decide) (L' := [(1, .int (iI (1 + 8))), (0, .int (iI (((tzI x : Nat) : Int))))]) rfl ?_
        refine g_iload_n (q := 45) B dJ6_numberOfTrailingZeros_0f7a4_44 rfl 1 rfl ?_
        refine g_bipush (q := 47) B dJ6_numberOfTrailingZeros_0f7a4_45 rfl (by decide) ?_
        refine g_iushr (v := (iI (((tzI x / 256 : Nat) : Int)))) (q := 48) B dJ6_numberOfTrailingZeros_0f7a4_47 rfl (iI_ushrN (k := 8) (by omega) (by decide)) ?_
        refine g_istore_n (q := 49) B dJ6_numberOfTrailingZeros_0f7a4_48 rfl (by decide) (L' := [(0, .int (iI (((tzI x / 256 : Nat) : Int)))), (1, .int (iI (1 + 8)))]) rfl ?_
        refine g_iload_n (q := 50) B dJ6_numberOfTrailingZeros_0f7a4_49 rfl 0 rfl ?_
        refine g_bipush (q := 52) B dJ6_numberOfTrailingZeros_0f7a4_50 rfl (by decide) ?_
        refine g_icmp_le (t := 62) (q := 55) B dJ6_numberOfTrailingZeros_0f7a4_52 (by decide) rfl ⟨by omega, by omega⟩ ⟨by omega, by omega⟩ (fun cq52 => ?_) (fun cq52 => ?_)
        · refine g_iload_n (q := 63) B dJ6_numberOfTrailingZeros_0f7a4_62 rfl 0 rfl ?_
          refine g_iconst (q := 64) B dJ6_numberOfTrailingZeros_0f7a4_63 rfl ?_
          refine g_icmp_le (t := 74) (q := 67) B dJ6_numberOfTrailingZeros_0f7a4_64 (by decide) rfl ⟨by omega, by omega⟩ ⟨by omega, by omega⟩ (fun cq64 => ?_) (fun cq64 => ?_)
          · refine g_iload_n (q := 75) B dJ6_numberOfTrailingZeros_0f7a4_74 rfl 1 rfl ?_
            refine g_iload_n (q := 76) B dJ6_numberOfTrailingZeros_0f7a4_75 rfl 0 rfl ?_
            refine g_iconst (q := 77) B dJ6_numberOfTrailingZeros_0f7a4_76 rfl ?_
            refine g_iushr (v := (iI (((tzI x / 256 / 2 : Nat) : Int)))) (q := 78) B dJ6_numberOfTrailingZeros_0f7a4_77 rfl (iI_ushrN (k := 1) (by omega) (by decide)) ?_
            refine g_iadd (q := 79) B dJ6_numberOfTrailingZeros_0f7a4_78 rfl ?_
            refine g_iret B E dJ6_numberOfTrailingZeros_0f7a4_79 ?_
            have e : ((tzR x : Nat) : Int) = (1 + 8) + (((tzI x / 256 / 2 : Nat) : Int)) := by
              unfold tzR tzA tzB tzC
              (repeat' split) <;> omega
            exact ⟨by rw [e], rfl⟩
          · refine g_iinc (n := 1) (q := 70) B dJ6_numberOfTrailingZeros_0f7a4_67 rfl rfl (by decide) (L' := [(1, .int (iI (1 + 8 + 2))), (0, .int (iI (((tzI x / 256 : Nat) : Int))))]) rfl ?_
            refine g_iload_n (q := 71) B dJ6_numberOfTrailingZeros_0f7a4_70 rfl 1 rfl ?_
            refine g_iconst (q := 72) B dJ6_numberOfTrailingZeros_0f7a4_71 rfl ?_
            refine g_iushr (v := (iI (((tzI x / 256 / 4 : Nat) : Int)))) (q := 73) B dJ6_numberOfTrailingZeros_0f7a4_72 rfl (iI_ushrN (k := 2) (by omega) (by decide)) ?_
            refine g_istore_n (q := 74) B dJ6_numberOfTrailingZeros_0f7a4_73 rfl (by decide) (L' := [(0, .int (iI (((tzI x / 256 / 4 : Nat) : Int)))), (1, .int (iI (1 + 8 + 2)))]) rfl ?_
            refine g_iload_n (q := 75) B dJ6_numberOfTrailingZeros_0f7a4_74 rfl 1 rfl ?_
            refine g_iload_n (q := 76) B dJ6_numberOfTrailingZeros_0f7a4_75 rfl 0 rfl ?_
            refine g_iconst (q := 77) B dJ6_numberOfTrailingZeros_0f7a4_76 rfl ?_
            refine g_iushr (v := (iI (((tzI x / 256 / 4 / 2 : Nat) : Int)))) (q := 78) B dJ6_numberOfTrailingZeros_0f7a4_77 rfl (iI_ushrN (k := 1) (by omega) (by decide)) ?_
            refine g_iadd (q := 79) B dJ6_numberOfTrailingZeros_0f7a4_78 rfl ?_
            refine g_iret B E dJ6_numberOfTrailingZeros_0f7a4_79 ?_
            have e : ((tzR x : Nat) : Int) = (1 + 8 + 2) + (((tzI x / 256 / 4 / 2 : Nat) : Int)) := by
              unfold tzR tzA tzB tzC
              (repeat' split) <;> omega
            exact ⟨by rw [e], rfl⟩
        · refine g_iinc (n := 1) (q := 58) B dJ6_numberOfTrailingZeros_0f7a4_55 rfl rfl (by decide) (L' := [(1, .int (iI (1 + 8 + 4))), (0, .int (iI (((tzI x / 256 : Nat) : Int))))]) rfl ?_
          refine g_iload_n (q := 59) B dJ6_numberOfTrailingZeros_0f7a4_58 rfl 1 rfl ?_
          refine g_iconst (q := 60) B dJ6_numberOfTrailingZeros_0f7a4_59 rfl ?_
          refine g_iushr (v := (iI (((tzI x / 256 / 16 : Nat) : Int)))) (q := 61) B dJ6_numberOfTrailingZeros_0f7a4_60 rfl (iI_ushrN (k := 4) (by omega) (by decide)) ?_
          refine g_istore_n (q := 62) B dJ6_numberOfTrailingZeros_0f7a4_61 rfl (by decide) (L' := [(0, .int (iI (((tzI x / 256 / 16 : Nat) : Int)))), (1, .int (iI (1 + 8 + 4)))]) rfl ?_
          refine g_iload_n (q := 63) B dJ6_numberOfTrailingZeros_0f7a4_62 rfl 0 rfl ?_
          refine g_iconst (q := 64) B dJ6_numberOfTrailingZeros_0f7a4_63 rfl ?_
          refine g_icmp_le (t := 74) (q := 67) B dJ6_numberOfTrailingZeros_0f7a4_64 (by decide) rfl ⟨by omega, by omega⟩ ⟨by omega, by omega⟩ (fun cq64 => ?_) (fun cq64 => ?_)
          · refine g_iload_n (q := 75) B dJ6_numberOfTrailingZeros_0f7a4_74 rfl 1 rfl ?_
            refine g_iload_n (q := 76) B dJ6_numberOfTrailingZeros_0f7a4_75 rfl 0 rfl ?_
            refine g_iconst (q := 77) B dJ6_numberOfTrailingZeros_0f7a4_76 rfl ?_
            refine g_iushr (v := (iI (((tzI x / 256 / 16 / 2 : Nat) : Int)))) (q := 78) B dJ6_numberOfTrailingZeros_0f7a4_77 rfl (iI_ushrN (k := 1) (by omega) (by decide)) ?_
            refine g_iadd (q := 79) B dJ6_numberOfTrailingZeros_0f7a4_78 rfl ?_
            refine g_iret B E dJ6_numberOfTrailingZeros_0f7a4_79 ?_
            have e : ((tzR x : Nat) : Int) = (1 + 8 + 4) + (((tzI x / 256 / 16 / 2 : Nat) : Int)) := by
              unfold tzR tzA tzB tzC
              (repeat' split) <;> omega
            exact ⟨by rw [e], rfl⟩
          · refine g_iinc (n := 1) (q := 70) B dJ6_numberOfTrailingZeros_0f7a4_67 rfl rfl (by decide) (L' := [(1, .int (iI (1 + 8 + 4 + 2))), (0, .int (iI (((tzI x / 256 / 16 : Nat) : Int))))]) rfl ?_
            refine g_iload_n (q := 71) B dJ6_numberOfTrailingZeros_0f7a4_70 rfl 1 rfl ?_
            refine g_iconst (q := 72) B dJ6_numberOfTrailingZeros_0f7a4_71 rfl ?_
            refine g_iushr (v := (iI (((tzI x / 256 / 16 / 4 : Nat) : Int)))) (q := 73) B dJ6_numberOfTrailingZeros_0f7a4_72 rfl (iI_ushrN (k := 2) (by omega) (by decide)) ?_
            refine g_istore_n (q := 74) B dJ6_numberOfTrailingZeros_0f7a4_73 rfl (by decide) (L' := [(0, .int (iI (((tzI x / 256 / 16 / 4 : Nat) : Int)))), (1, .int (iI (1 + 8 + 4 + 2)))]) rfl ?_
            refine g_iload_n (q := 75) B dJ6_numberOfTrailingZeros_0f7a4_74 rfl 1 rfl ?_
            refine g_iload_n (q := 76) B dJ6_numberOfTrailingZeros_0f7a4_75 rfl 0 rfl ?_
            refine g_iconst (q := 77) B dJ6_numberOfTrailingZeros_0f7a4_76 rfl ?_
            refine g_iushr (v := (iI (((tzI x / 256 / 16 / 4 / 2 : Nat) : Int)))) (q := 78) B dJ6_numberOfTrailingZeros_0f7a4_77 rfl (iI_ushrN (k := 1) (by omega) (by decide)) ?_
            refine g_iadd (q := 79) B dJ6_numberOfTrailingZeros_0f7a4_78 rfl ?_
            refine g_iret B E dJ6_numberOfTrailingZeros_0f7a4_79 ?_
            have e : ((tzR x : Nat) : Int) = (1 + 8 + 4 + 2) + (((tzI x / 256 / 16 / 4 / 2 : Nat) : Int)) := by
              unfold tzR tzA tzB tzC
              (repeat' split) <;> omega
            exact ⟨by rw [e], rfl⟩
    · exact absurd cq23 (by omega)
  · refine g_iload_n (q := 13) B dJ6_numberOfTrailingZeros_0f7a4_12 rfl 0 rfl ?_
    refine g_bipush (q := 15) B dJ6_numberOfTrailingZeros_0f7a4_13 rfl (by decide) ?_
    refine g_iand (v := (iI (((tzI x &&& 32 : Nat) : Int)))) (q := 16) B dJ6_numberOfTrailingZeros_0f7a4_15 rfl (iI_andN _ 32) ?_
    refine g_iret B E dJ6_numberOfTrailingZeros_0f7a4_16 ?_
    have e : ((tzR x : Nat) : Int) = ((tzI x &&& 32 : Nat) : Int) := by rw [tzR, if_pos (by omega), show tzI x = 0 by omega]; rfl
    exact ⟨by rw [e], rfl⟩
set_option maxHeartbeats 4000000 in
theorem c_X0_leastGapWithin {Y : gY} {l : Launch} {S : SS} {g : Int → Int} (hd : wd S g) (hw : wf g) (m : Nat) (hm : m ≤ 6) : gM Y l mX0_leastGapWithin S [.ref (yA Y 77), .int (iI ((m : Int)))] (pV (.int (iI (lgF g m))) (fun S' => S' = S)) := by
  refine gM_of (by decide) (Nat.le_of_ble_eq_true rfl) ?_
  intro X hXl B E
  show gW Y X S 0 [(0, .ref (yA Y 77)), (1, .int (iI ((m : Int))))] []
  refine g_aload_n (q := 1) B dX0_leastGapWithin_0 rfl 0 rfl ?_
  refine g_iload_n (q := 2) B dX0_leastGapWithin_1 rfl 1 rfl ?_
  refine g_iconst (q := 3) B dX0_leastGapWithin_2 rfl ?_
  refine g_iconst (q := 4) B dX0_leastGapWithin_3 rfl ?_
  refine g_lconst (z := 0) (q := 5) B dX0_leastGapWithin_4 rfl rfl ?_
  refine g_callS (q := 8) (As := [.ref (yA Y 77), .int (iI ((m : Int))), .int (iI 0), .int (iI 0), .long (lI 0)]) (st := []) B dX0_leastGapWithin_5 rfl ((c_lf0 (l := xL X) hd hw m (by omega))) (eX0_leastFrom m) w799 (show 2 + m + 1 ≤ 10 by omega) rfl rfl (Nat.le_of_ble_eq_true rfl) (g_kE ?_)
  refine g_iret B E dX0_leastGapWithin_8 ?_
  exact ⟨rfl, rfl⟩
set_option maxHeartbeats 4000000 in
theorem c_X0_fewestByOwners {Y : gY} {l : Launch} {S : SS} {g : Int → Int} (hd : wd S g) (hw : wf g) : gM Y l mX0_fewestByOwners S [.ref (yA Y 77)] (pV (.int (iI (fewF g))) (fun S' => S' = S)) := by
  refine gM_of (by decide) (Nat.le_of_ble_eq_true rfl) ?_
  intro X hXl B E
  have hn := hw.1
  have hd0 := hd.1
  have hTp := pz_in (Int.le_refl _) (ahF_R hw (g 0).toNat (by omega))
  have hd1 := hd.2.1
  obtain ⟨mq, hM⟩ : ∃ mq : Nat, 2 ^ ((g 0).toNat - 1) = mq := ⟨_, rfl⟩
  have hM2 : mq ≤ 32768 := by rw [← hM]; exact Nat.pow_le_pow_right (n := 2) (by decide) (show (g 0).toNat - 1 ≤ 15 by omega)
  have hM1 : 1 ≤ mq := by rw [← hM]; exact Nat.one_le_two_pow
  have hMe : 1 ≤ g 0 → 1 * 2 ^ (S 77 0 - 1).toNat = (mq : Int) := fun h => by rw [hd0, Int.one_mul, ← hM, Int.natCast_pow, show (g 0 - 1).toNat = (g 0).toNat - 1 by omega]; rfl
  show gW Y X S 0 [(0, .ref (yA Y 77))] []
  have lp28 : ∀ (fu : Nat) (yw : Nat) (fx : Int) (x2 x3 x5 : Int) , x2 = (((gry yw : Nat) : Int)) → x3 = (pkF (owS g (gry yw))) → x5 = (((yw + 1 : Nat) : Int)) → yw + 1 ≤ mq → foI g (yw + 1) fx → oddF g = 0 → 1 ≤ g 0 → mq - yw < fu → gW Y X S 28 [(0, .ref (yA Y 77)), (1, .int (iI fx)), (2, .int (iI x2)), (3, .long (lI x3)), (5, .int (iI x5))] [] := by
    intro fu
    induction fu with
    | zero =>
      intro yw fx x2 x3 x5 e_x2 e_x3 e_x5 hyw hfo ho hng hfu
      exact absurd hfu (Nat.not_lt_zero _)
    | succ fu ih =>
      intro yw fx x2 x3 x5 e_x2 e_x3 e_x5 hyw hfo ho hng hfu
      subst e_x2
      subst e_x3
      subst e_x5
      have hfx : 0 ≤ fx ∧ fx ≤ 7 := by
        refine ⟨?_, hfo.1⟩
        rcases hfo.2.1 with h | ⟨v, _, _, _, h⟩ <;> omega
      have hfact : yw + 1 < mq → gry (yw + 1) = gry yw ^^^ 2 ^ tzR (yw + 1) ∧ tzR (yw + 1) + 1 < (g 0).toNat ∧ gry (yw + 1) < 32768 := fun h => by
        obtain ⟨a, b⟩ := gry_step (x := yw + 1) (by omega) (by omega)
        refine ⟨a, ?_, gry_lt (m := 15) (show yw + 1 < 2 ^ 15 by omega)⟩
        have h2 : 2 ^ tzR (yw + 1) < 2 ^ ((g 0).toNat - 1) := by omega
        have h3 := (Nat.pow_lt_pow_iff_right (a := 2) (by decide)).mp h2
        omega
      have hO := pz_in (Int.le_refl _) (owS_R hw (gry yw))
      have hO2 := pz_in (Int.le_refl _) (owS_R hw (gry (yw + 1)))
      refine g_iload (q := 30) B dX0_fewestByOwners_28 rfl 4 rfl ?_
      refine g_iconst (q := 31) B dX0_fewestByOwners_30 rfl ?_
      refine g_aload_n (q := 32) B dX0_fewestByOwners_31 rfl 0 rfl ?_
      refine g_get (n := 77) (ty := tyX0) (q := 35) (v := .int (iI (S 77 0))) B dX0_fewestByOwners_32 rfl rfl rfl cls0 2 (by decide) w129 rfl ?_
      refine g_iconst (q := 36) B dX0_fewestByOwners_35 rfl ?_
      refine g_isub (q := 37) B dX0_fewestByOwners_36 rfl ?_
      refine g_ishl (v := (iI ((mq : Int)))) (q := 38) B dX0_fewestByOwners_37 rfl ((iI_shl (by omega) (by omega) (by omega) (by rw [hMe (by omega)]; omega)).trans (congrArg iI (hMe (by omega)))) ?_
      refine g_icmp_ge (t := 120) (q := 41) B dX0_fewestByOwners_38 (by decide) rfl ⟨by omega, by omega⟩ ⟨by omega, by omega⟩ (fun cq38 => ?_) (fun cq38 => ?_)
      · refine g_iload_n (q := 121) B dX0_fewestByOwners_120 rfl 1 rfl ?_
        refine g_bipush (q := 123) B dX0_fewestByOwners_121 rfl (by decide) ?_
        refine g_icmp_le (t := 130) (q := 126) B dX0_fewestByOwners_123 (by decide) rfl ⟨by omega, by omega⟩ ⟨by omega, by omega⟩ (fun cq123 => ?_) (fun cq123 => ?_)
        · refine g_iload_n (q := 131) B dX0_fewestByOwners_130 rfl 1 rfl ?_
          refine g_iret B E dX0_fewestByOwners_131 ?_
          have hfin := foI_end hw (by omega) (show foI g (2 ^ ((g 0).toNat - 1)) fx by rw [hM, show mq = yw + 1 by omega]; exact hfo)
          exact ⟨by rw [hfin, if_neg (by omega)], rfl⟩
        · refine g_iconst (q := 127) B dX0_fewestByOwners_126 rfl ?_
          refine g_goto (q := 131) B dX0_fewestByOwners_127 (by decide) ?_
          refine g_iret B E dX0_fewestByOwners_131 ?_
          have hfin := foI_end hw (by omega) (show foI g (2 ^ ((g 0).toNat - 1)) fx by rw [hM, show mq = yw + 1 by omega]; exact hfo)
          exact ⟨by rw [hfin, if_pos (by omega)], rfl⟩
      · refine g_iload (q := 43) B dX0_fewestByOwners_41 rfl 4 rfl ?_
        refine g_callS (q := 46) (As := [.int (iI (((yw + 1 : Nat) : Int)))]) (st := []) B dX0_fewestByOwners_43 rfl (c_J6_numberOfTrailingZeros_0f7a4 (l := xL X) (S := S) (yw + 1) (by omega) (by omega)) eJ6_numberOfTrailingZeros_0f7a4 w773 (by decide) rfl rfl (Nat.le_of_ble_eq_true rfl) (g_kE ?_)
        obtain ⟨hgs1, hgs2, hgs3⟩ := hfact (by omega)
        have hdl := Nat.div_le_self (gry (yw + 1)) (2 ^ tzR (yw + 1))
        have hp2 : 2 ^ tzR (yw + 1) ≤ 2 ^ 15 := Nat.pow_le_pow_right (by decide) (by omega)
        have hox := fun k => owS_x g (gry yw) (tzR (yw + 1)) k (by omega)
        rw [← hgs1] at hox
        have hs1 : (gry (yw + 1)).testBit (tzR (yw + 1)) = true → pkF (owS g (gry yw)) + pkF (fun k => ahE g k ((tzR (yw + 1) : Nat) : Int)) = pkF (owS g (gry (yw + 1))) := fun h => by rw [pz_add]; congr 1; funext k; rw [hox k, if_pos h]
        have hs0 : ¬ (gry (yw + 1)).testBit (tzR (yw + 1)) = true → pkF (owS g (gry yw)) + -(pkF (fun k => ahE g k ((tzR (yw + 1) : Nat) : Int))) = pkF (owS g (gry (yw + 1))) := fun h => by rw [pz_neg, pz_add]; congr 1; funext k; rw [hox k, if_neg h]
        refine g_istore (q := 48) B dX0_fewestByOwners_46 rfl (by decide) (L' := [(6, .int (iI (((tzR (yw + 1) : Nat) : Int)))), (0, .ref (yA Y 77)), (1, .int (iI fx)), (2, .int (iI (((gry yw : Nat) : Int)))), (3, .long (lI (pkF (owS g (gry yw))))), (5, .int (iI (((yw + 1 : Nat) : Int))))]) rfl ?_
        refine g_aload_n (q := 49) B dX0_fewestByOwners_48 rfl 1 rfl ?_
        refine g_iload (q := 51) B dX0_fewestByOwners_49 rfl 0 rfl ?_
        refine g_iconst (q := 52) B dX0_fewestByOwners_51 rfl ?_
        refine g_iadd (q := 53) B dX0_fewestByOwners_52 rfl ?_
        refine g_callV (n := 77) (ty := tyX0) (q := 56) (As := [.int (iI ((((tzR (yw + 1) : Nat) : Int)) + 1))]) (st := []) B dX0_fewestByOwners_53 rfl (c_X0_sumAhead (l := xL X) (S := S) ((((tzR (yw + 1) : Nat) : Int)) + 1) (by omega) (by omega)) eX0_sumAhead w711 (by decide) rfl rfl cls0 rfl rfl (Nat.le_of_ble_eq_true rfl) (g_kE ?_)
        refine g_aload_n (q := 57) B dX0_fewestByOwners_56 rfl 1 rfl ?_
        refine g_iload (q := 59) B dX0_fewestByOwners_57 rfl 0 rfl ?_
        refine g_callV (n := 77) (ty := tyX0) (q := 62) (As := [.int (iI (((tzR (yw + 1) : Nat) : Int)))]) (st := [.long (lI (S 78 ((((tzR (yw + 1) : Nat) : Int)) + 1)))]) B dX0_fewestByOwners_59 rfl (c_X0_sumAhead (l := xL X) (S := S) (((tzR (yw + 1) : Nat) : Int)) (by omega) (by omega)) eX0_sumAhead w711 (by decide) rfl rfl cls0 rfl rfl (Nat.le_of_ble_eq_true rfl) (g_kE ?_)
        refine g_lsub (q := 63) B dX0_fewestByOwners_62 rfl ?_
        refine g_eqT (st' := [.long (lI (pkF (fun k => ahE g k ((tzR (yw + 1) : Nat) : Int))))]) (congrArg (fun z => Value.long (lI z) :: []) (show (S 78 ((((tzR (yw + 1) : Nat) : Int)) + 1)) - (S 78 (((tzR (yw + 1) : Nat) : Int))) = pkF (fun k => ahE g k ((tzR (yw + 1) : Nat) : Int)) by rw [wd_p hd (by omega) (by omega), wd_p hd (by omega) (by omega), pz_sub]; congr 1; funext k; rw [show (((tzR (yw + 1) : Nat) : Int) + 1).toNat = tzR (yw + 1) + 1 by omega, show ((tzR (yw + 1) : Nat) : Int).toNat = tzR (yw + 1) by omega, ahF_s]; omega)) ?_
        refine g_lstore (q := 65) B dX0_fewestByOwners_63 rfl (by decide) (L' := [(7, .long (lI (pkF (fun k => ahE g k ((tzR (yw + 1) : Nat) : Int))))), (6, .int (iI (((tzR (yw + 1) : Nat) : Int)))), (0, .ref (yA Y 77)), (1, .int (iI fx)), (2, .int (iI (((gry yw : Nat) : Int)))), (3, .long (lI (pkF (owS g (gry yw))))), (5, .int (iI (((yw + 1 : Nat) : Int))))]) rfl ?_
        refine g_iload_n (q := 66) B dX0_fewestByOwners_65 rfl 4 rfl ?_
        refine g_iconst (q := 67) B dX0_fewestByOwners_66 rfl ?_
        refine g_iload (q := 69) B dX0_fewestByOwners_67 rfl 1 rfl ?_
        refine g_ishl (v := (iI (((2 ^ tzR (yw + 1) : Nat) : Int)))) (q := 70) B dX0_fewestByOwners_69 rfl ((iI_shl (by omega) (by omega) (by omega) (by rw [show ((tzR (yw + 1) : Nat) : Int).toNat = tzR (yw + 1) from rfl, Int.one_mul, ← cast_pow2]; omega)).trans (congrArg iI (by rw [show ((tzR (yw + 1) : Nat) : Int).toNat = tzR (yw + 1) from rfl, Int.one_mul, ← cast_pow2]))) ?_
        refine g_ixor (v := (iI (((gry (yw + 1) : Nat) : Int)))) (q := 71) B dX0_fewestByOwners_70 rfl ((iI_xorN _ _).trans (by rw [hgs1])) ?_
        refine g_istore_n (q := 72) B dX0_fewestByOwners_71 rfl (by decide) (L' := [(2, .int (iI (((gry (yw + 1) : Nat) : Int)))), (7, .long (lI (pkF (fun k => ahE g k ((tzR (yw + 1) : Nat) : Int))))), (6, .int (iI (((tzR (yw + 1) : Nat) : Int)))), (0, .ref (yA Y 77)), (1, .int (iI fx)), (3, .long (lI (pkF (owS g (gry yw))))), (5, .int (iI (((yw + 1 : Nat) : Int))))]) rfl ?_
        refine g_lload_n (q := 73) B dX0_fewestByOwners_72 rfl 5 rfl ?_
        refine g_iload_n (q := 74) B dX0_fewestByOwners_73 rfl 0 rfl ?_
        refine g_iload (q := 76) B dX0_fewestByOwners_74 rfl 2 rfl ?_
        refine g_iushr (v := (iI (((gry (yw + 1) / 2 ^ tzR (yw + 1) : Nat) : Int)))) (q := 77) B dX0_fewestByOwners_76 rfl (iI_ushrN (k := tzR (yw + 1)) (by omega) (by omega)) ?_
        refine g_iconst (q := 78) B dX0_fewestByOwners_77 rfl ?_
        refine g_iand (v := (iI (((gry (yw + 1) / 2 ^ tzR (yw + 1) : Nat) : Int) % 2))) (q := 79) B dX0_fewestByOwners_78 rfl (iI_and1 (Int.natCast_nonneg _) (Int.lt_of_le_of_lt (Int.ofNat_le.mpr hdl) (by omega))) ?_
        refine g_if_eq (t := 87) (q := 82) B dX0_fewestByOwners_79 (by decide) rfl ⟨by omega, by omega⟩ (fun cq79 => ?_) (fun cq79 => ?_)
        · refine g_lload (q := 89) B dX0_fewestByOwners_87 rfl 1 rfl ?_
          refine g_lneg (q := 90) B dX0_fewestByOwners_89 rfl ?_
          refine g_ladd (q := 91) B dX0_fewestByOwners_90 rfl ?_
          refine g_eqT (st' := [.long (lI (pkF (owS g (gry (yw + 1)))))]) (congrArg (fun z => Value.long (lI z) :: []) (show (pkF (owS g (gry yw))) + (-(pkF (fun k => ahE g k ((tzR (yw + 1) : Nat) : Int)))) = pkF (owS g (gry (yw + 1))) by first | exact hs1 ((bit_odd _ _).mpr (by omega)) | exact hs0 (fun z => by have := (bit_odd _ _).mp z; omega))) ?_
          refine g_lstore_n (q := 92) B dX0_fewestByOwners_91 rfl (by decide) (L' := [(3, .long (lI (pkF (owS g (gry (yw + 1)))))), (2, .int (iI (((gry (yw + 1) : Nat) : Int)))), (7, .long (lI (pkF (fun k => ahE g k ((tzR (yw + 1) : Nat) : Int))))), (6, .int (iI (((tzR (yw + 1) : Nat) : Int)))), (0, .ref (yA Y 77)), (1, .int (iI fx)), (5, .int (iI (((yw + 1 : Nat) : Int))))]) rfl ?_
          refine g_lload_n (q := 93) B dX0_fewestByOwners_92 rfl 0 rfl ?_
          refine g_aload_n (q := 94) B dX0_fewestByOwners_93 rfl 4 rfl ?_
          refine g_get (n := 77) (ty := tyX0) (q := 97) (v := .long (lI (S 77 1))) B dX0_fewestByOwners_94 rfl rfl rfl cls0 3 (by decide) w130 rfl ?_
          refine g_lcmp_ne (t := 114) (q := 101) B dX0_fewestByOwners_97 dX0_fewestByOwners_98 (by decide) rfl ⟨by omega, by omega⟩ ⟨by omega, by omega⟩ (fun cq97 => ?_) (fun cq97 => ?_)
          · refine g_iinc (n := 6) (q := 117) B dX0_fewestByOwners_114 rfl rfl (by decide) (L' := [(5, .int (iI (((yw + 1 : Nat) : Int) + 1))), (3, .long (lI (pkF (owS g (gry (yw + 1)))))), (2, .int (iI (((gry (yw + 1) : Nat) : Int)))), (7, .long (lI (pkF (fun k => ahE g k ((tzR (yw + 1) : Nat) : Int))))), (6, .int (iI (((tzR (yw + 1) : Nat) : Int)))), (0, .ref (yA Y 77)), (1, .int (iI fx))]) rfl ?_
            refine g_goto (q := 28) B dX0_fewestByOwners_117 (by decide) ?_
            refine g_sub [5, 6, 2, 1, 0] rfl ?_
            exact ih (yw + 1) _ _ _ _ (by rfl) (by rfl) (by omega) (by first | assumption | omega) (by first | exact foI_y hfo (by omega) ((half_iff hw ho (owS_R hw _)).mp (cq97.trans hd1)) | exact foI_n hfo (fun z => cq97 (((half_iff hw ho (owS_R hw _)).mpr z).trans hd1.symm))) (by first | assumption | omega) (by first | assumption | omega) (by omega)
          · refine g_iload_n (q := 102) B dX0_fewestByOwners_101 rfl 5 rfl ?_
            refine g_iload_n (q := 103) B dX0_fewestByOwners_102 rfl 1 rfl ?_
            refine g_iload_n (q := 104) B dX0_fewestByOwners_103 rfl 1 rfl ?_
            refine g_iconst (q := 105) B dX0_fewestByOwners_104 rfl ?_
            refine g_iushr (v := (iI (((gry (yw + 1) / 2 : Nat) : Int)))) (q := 106) B dX0_fewestByOwners_105 rfl (iI_ushrN (k := 1) (by omega) (by decide)) ?_
            refine g_ixor (v := (iI (((gry (yw + 1) ^^^ gry (yw + 1) / 2 : Nat) : Int)))) (q := 107) B dX0_fewestByOwners_106 rfl (iI_xorN _ _) ?_
            refine g_callS (q := 110) (As := [.int (iI (((gry (yw + 1) ^^^ gry (yw + 1) / 2 : Nat) : Int)))]) (st := [.int (iI fx)]) B dX0_fewestByOwners_107 rfl (c_J6_bitCount_0f7a4 (l := xL X) (S := S) (gry (yw + 1) ^^^ gry (yw + 1) / 2) (Nat.xor_lt_two_pow (n := 16) (by omega) (by omega))) eJ6_bitCount_0f7a4 w777 (by decide) rfl rfl (Nat.le_of_ble_eq_true rfl) (g_kE ?_)
            have hcn := cn_16 (gry (yw + 1) ^^^ gry (yw + 1) / 2)
            refine g_min (q := 113) B dX0_fewestByOwners_110 rfl w778 wst_min w32 wco_min (by decide) (Nat.le_of_ble_eq_true rfl) ⟨by omega, by omega⟩ ⟨by omega, by omega⟩ ?_
            refine g_istore_n (q := 114) B dX0_fewestByOwners_113 rfl (by decide) (L' := [(1, .int (iI (if ((cn (gry (yw + 1) ^^^ gry (yw + 1) / 2) 16 : Nat) : Int) < fx then ((cn (gry (yw + 1) ^^^ gry (yw + 1) / 2) 16 : Nat) : Int) else fx))), (3, .long (lI (pkF (owS g (gry (yw + 1)))))), (2, .int (iI (((gry (yw + 1) : Nat) : Int)))), (7, .long (lI (pkF (fun k => ahE g k ((tzR (yw + 1) : Nat) : Int))))), (6, .int (iI (((tzR (yw + 1) : Nat) : Int)))), (0, .ref (yA Y 77)), (5, .int (iI (((yw + 1 : Nat) : Int))))]) rfl ?_
            refine g_iinc (n := 6) (q := 117) B dX0_fewestByOwners_114 rfl rfl (by decide) (L' := [(5, .int (iI (((yw + 1 : Nat) : Int) + 1))), (1, .int (iI (if ((cn (gry (yw + 1) ^^^ gry (yw + 1) / 2) 16 : Nat) : Int) < fx then ((cn (gry (yw + 1) ^^^ gry (yw + 1) / 2) 16 : Nat) : Int) else fx))), (3, .long (lI (pkF (owS g (gry (yw + 1)))))), (2, .int (iI (((gry (yw + 1) : Nat) : Int)))), (7, .long (lI (pkF (fun k => ahE g k ((tzR (yw + 1) : Nat) : Int))))), (6, .int (iI (((tzR (yw + 1) : Nat) : Int)))), (0, .ref (yA Y 77))]) rfl ?_
            refine g_goto (q := 28) B dX0_fewestByOwners_117 (by decide) ?_
            refine g_sub [6, 1, 3, 2, 0] rfl ?_
            exact ih (yw + 1) _ _ _ _ (by rfl) (by rfl) (by omega) (by first | assumption | omega) (by first | exact foI_y hfo (by omega) ((half_iff hw ho (owS_R hw _)).mp (cq97.trans hd1)) | exact foI_n hfo (fun z => cq97 (((half_iff hw ho (owS_R hw _)).mpr z).trans hd1.symm))) (by first | assumption | omega) (by first | assumption | omega) (by omega)
        · refine g_lload (q := 84) B dX0_fewestByOwners_82 rfl 1 rfl ?_
          refine g_goto (q := 90) B dX0_fewestByOwners_84 (by decide) ?_
          refine g_ladd (q := 91) B dX0_fewestByOwners_90 rfl ?_
          refine g_eqT (st' := [.long (lI (pkF (owS g (gry (yw + 1)))))]) (congrArg (fun z => Value.long (lI z) :: []) (show (pkF (owS g (gry yw))) + (pkF (fun k => ahE g k ((tzR (yw + 1) : Nat) : Int))) = pkF (owS g (gry (yw + 1))) by first | exact hs1 ((bit_odd _ _).mpr (by omega)) | exact hs0 (fun z => by have := (bit_odd _ _).mp z; omega))) ?_
          refine g_lstore_n (q := 92) B dX0_fewestByOwners_91 rfl (by decide) (L' := [(3, .long (lI (pkF (owS g (gry (yw + 1)))))), (2, .int (iI (((gry (yw + 1) : Nat) : Int)))), (7, .long (lI (pkF (fun k => ahE g k ((tzR (yw + 1) : Nat) : Int))))), (6, .int (iI (((tzR (yw + 1) : Nat) : Int)))), (0, .ref (yA Y 77)), (1, .int (iI fx)), (5, .int (iI (((yw + 1 : Nat) : Int))))]) rfl ?_
          refine g_lload_n (q := 93) B dX0_fewestByOwners_92 rfl 0 rfl ?_
          refine g_aload_n (q := 94) B dX0_fewestByOwners_93 rfl 4 rfl ?_
          refine g_get (n := 77) (ty := tyX0) (q := 97) (v := .long (lI (S 77 1))) B dX0_fewestByOwners_94 rfl rfl rfl cls0 3 (by decide) w130 rfl ?_
          refine g_lcmp_ne (t := 114) (q := 101) B dX0_fewestByOwners_97 dX0_fewestByOwners_98 (by decide) rfl ⟨by omega, by omega⟩ ⟨by omega, by omega⟩ (fun cq97 => ?_) (fun cq97 => ?_)
          · refine g_iinc (n := 6) (q := 117) B dX0_fewestByOwners_114 rfl rfl (by decide) (L' := [(5, .int (iI (((yw + 1 : Nat) : Int) + 1))), (3, .long (lI (pkF (owS g (gry (yw + 1)))))), (2, .int (iI (((gry (yw + 1) : Nat) : Int)))), (7, .long (lI (pkF (fun k => ahE g k ((tzR (yw + 1) : Nat) : Int))))), (6, .int (iI (((tzR (yw + 1) : Nat) : Int)))), (0, .ref (yA Y 77)), (1, .int (iI fx))]) rfl ?_
            refine g_goto (q := 28) B dX0_fewestByOwners_117 (by decide) ?_
            refine g_sub [5, 6, 2, 1, 0] rfl ?_
            exact ih (yw + 1) _ _ _ _ (by rfl) (by rfl) (by omega) (by first | assumption | omega) (by first | exact foI_y hfo (by omega) ((half_iff hw ho (owS_R hw _)).mp (cq97.trans hd1)) | exact foI_n hfo (fun z => cq97 (((half_iff hw ho (owS_R hw _)).mpr z).trans hd1.symm))) (by first | assumption | omega) (by first | assumption | omega) (by omega)
          · refine g_iload_n (q := 102) B dX0_fewestByOwners_101 rfl 5 rfl ?_
            refine g_iload_n (q := 103) B dX0_fewestByOwners_102 rfl 1 rfl ?_
            refine g_iload_n (q := 104) B dX0_fewestByOwners_103 rfl 1 rfl ?_
            refine g_iconst (q := 105) B dX0_fewestByOwners_104 rfl ?_
            refine g_iushr (v := (iI (((gry (yw + 1) / 2 : Nat) : Int)))) (q := 106) B dX0_fewestByOwners_105 rfl (iI_ushrN (k := 1) (by omega) (by decide)) ?_
            refine g_ixor (v := (iI (((gry (yw + 1) ^^^ gry (yw + 1) / 2 : Nat) : Int)))) (q := 107) B dX0_fewestByOwners_106 rfl (iI_xorN _ _) ?_
            refine g_callS (q := 110) (As := [.int (iI (((gry (yw + 1) ^^^ gry (yw + 1) / 2 : Nat) : Int)))]) (st := [.int (iI fx)]) B dX0_fewestByOwners_107 rfl (c_J6_bitCount_0f7a4 (l := xL X) (S := S) (gry (yw + 1) ^^^ gry (yw + 1) / 2) (Nat.xor_lt_two_pow (n := 16) (by omega) (by omega))) eJ6_bitCount_0f7a4 w777 (by decide) rfl rfl (Nat.le_of_ble_eq_true rfl) (g_kE ?_)
            have hcn := cn_16 (gry (yw + 1) ^^^ gry (yw + 1) / 2)
            refine g_min (q := 113) B dX0_fewestByOwners_110 rfl w778 wst_min w32 wco_min (by decide) (Nat.le_of_ble_eq_true rfl) ⟨by omega, by omega⟩ ⟨by omega, by omega⟩ ?_
            refine g_istore_n (q := 114) B dX0_fewestByOwners_113 rfl (by decide) (L' := [(1, .int (iI (if ((cn (gry (yw + 1) ^^^ gry (yw + 1) / 2) 16 : Nat) : Int) < fx then ((cn (gry (yw + 1) ^^^ gry (yw + 1) / 2) 16 : Nat) : Int) else fx))), (3, .long (lI (pkF (owS g (gry (yw + 1)))))), (2, .int (iI (((gry (yw + 1) : Nat) : Int)))), (7, .long (lI (pkF (fun k => ahE g k ((tzR (yw + 1) : Nat) : Int))))), (6, .int (iI (((tzR (yw + 1) : Nat) : Int)))), (0, .ref (yA Y 77)), (5, .int (iI (((yw + 1 : Nat) : Int))))]) rfl ?_
            refine g_iinc (n := 6) (q := 117) B dX0_fewestByOwners_114 rfl rfl (by decide) (L' := [(5, .int (iI (((yw + 1 : Nat) : Int) + 1))), (1, .int (iI (if ((cn (gry (yw + 1) ^^^ gry (yw + 1) / 2) 16 : Nat) : Int) < fx then ((cn (gry (yw + 1) ^^^ gry (yw + 1) / 2) 16 : Nat) : Int) else fx))), (3, .long (lI (pkF (owS g (gry (yw + 1)))))), (2, .int (iI (((gry (yw + 1) : Nat) : Int)))), (7, .long (lI (pkF (fun k => ahE g k ((tzR (yw + 1) : Nat) : Int))))), (6, .int (iI (((tzR (yw + 1) : Nat) : Int)))), (0, .ref (yA Y 77))]) rfl ?_
            refine g_goto (q := 28) B dX0_fewestByOwners_117 (by decide) ?_
            refine g_sub [6, 1, 3, 2, 0] rfl ?_
            exact ih (yw + 1) _ _ _ _ (by rfl) (by rfl) (by omega) (by first | assumption | omega) (by first | exact foI_y hfo (by omega) ((half_iff hw ho (owS_R hw _)).mp (cq97.trans hd1)) | exact foI_n hfo (fun z => cq97 (((half_iff hw ho (owS_R hw _)).mpr z).trans hd1.symm))) (by first | assumption | omega) (by first | assumption | omega) (by omega)
  refine g_aload_n (q := 1) B dX0_fewestByOwners_0 rfl 0 rfl ?_
  refine g_get (n := 77) (ty := tyX0) (q := 4) (v := .int (iI (S 77 0))) B dX0_fewestByOwners_1 rfl rfl rfl cls0 2 (by decide) w129 rfl ?_
  refine g_if_ne (t := 9) (q := 7) B dX0_fewestByOwners_4 (by decide) rfl ⟨by omega, by omega⟩ (fun cq4 => ?_) (fun cq4 => ?_)
  · refine g_aload_n (q := 10) B dX0_fewestByOwners_9 rfl 0 rfl ?_
    refine g_callV (n := 77) (ty := tyX0) (q := 13) (As := []) (st := []) B dX0_fewestByOwners_10 rfl (c_X0_isOddOfAKind (l := xL X) (S := S) hd hw) eX0_isOddOfAKind w707 (by decide) rfl rfl cls0 rfl rfl (Nat.le_of_ble_eq_true rfl) (g_kE ?_)
    have hodd := oddF_in g
    refine g_if_eq (t := 18) (q := 16) B dX0_fewestByOwners_13 (by decide) rfl ⟨by omega, by omega⟩ (fun cq13 => ?_) (fun cq13 => ?_)
    · refine g_bipush (q := 20) B dX0_fewestByOwners_18 rfl (by decide) ?_
      refine g_istore_n (q := 21) B dX0_fewestByOwners_20 rfl (by decide) (L' := [(1, .int (iI 7)), (0, .ref (yA Y 77))]) rfl ?_
      refine g_iconst (q := 22) B dX0_fewestByOwners_21 rfl ?_
      refine g_istore_n (q := 23) B dX0_fewestByOwners_22 rfl (by decide) (L' := [(2, .int (iI 0)), (1, .int (iI 7)), (0, .ref (yA Y 77))]) rfl ?_
      refine g_lconst (z := 0) (q := 24) B dX0_fewestByOwners_23 rfl rfl ?_
      refine g_lstore_n (q := 25) B dX0_fewestByOwners_24 rfl (by decide) (L' := [(3, .long (lI 0)), (2, .int (iI 0)), (1, .int (iI 7)), (0, .ref (yA Y 77))]) rfl ?_
      refine g_iconst (q := 26) B dX0_fewestByOwners_25 rfl ?_
      refine g_istore (q := 28) B dX0_fewestByOwners_26 rfl (by decide) (L' := [(5, .int (iI 1)), (3, .long (lI 0)), (2, .int (iI 0)), (1, .int (iI 7)), (0, .ref (yA Y 77))]) rfl ?_
      refine g_sub [4, 3, 2, 1, 0] rfl ?_
      exact lp28 _ 0 7 _ _ _ (by rfl) (by exact pz_0.symm.trans (congrArg pkF (funext fun k => (owS_0 g k).symm))) (by rfl) (by first | assumption | omega) (by exact foI_0 g) (by omega) (by first | assumption | omega) (Nat.lt_succ_self _)
    · refine g_iconst (q := 17) B dX0_fewestByOwners_16 rfl ?_
      refine g_iret B E dX0_fewestByOwners_17 ?_
      exact ⟨by rw [few_odd hw cq13], rfl⟩
  · refine g_iconst (q := 8) B dX0_fewestByOwners_7 rfl ?_
    refine g_iret B E dX0_fewestByOwners_8 ?_
    exact ⟨by rw [few_none hw (by omega)], rfl⟩
