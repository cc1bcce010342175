/-! THE LAW'S LOOP -/
theorem law_next {Y : gY} {X : gX} {S : SS} {b : Nat} {i : Int} {ret : Option FieldType} (B : gB Y X "NecklaceSistersLaw" cL_law 7 ret 100) (kk : gW Y X S 23 [(0, .ref b), (1, .ref (yA Y 72)), (2, .ref (yA Y 82)), (3, .ref (yA Y 91)), (4, .int (iI (i + 4)))] []) : gW Y X S 1813 [(0, .ref b), (1, .ref (yA Y 72)), (2, .ref (yA Y 82)), (3, .ref (yA Y 91)), (4, .int (iI i))] [] := by
  refine g_iinc (n := 4) (q := 1816) B dL_law_1813 rfl rfl (by decide) (L' := [(4, .int (iI (i + 4))), (0, .ref b), (1, .ref (yA Y 72)), (2, .ref (yA Y 82)), (3, .ref (yA Y 91))]) rfl ?_
  refine g_goto (q := 23) B dL_law_1816 (by decide) ?_
  refine g_sub [1, 2, 3, 4, 0] rfl ?_
  exact kk
set_option maxHeartbeats 4000000 in
theorem law_loop {Y : gY} {X : gX} {b N : Nat} {xs : Nat → Int32} {ret : Option FieldType} (hst : (xL X).stackTraces = false) (hX : gSc Y X b N xs) (hro : 601024 ≤ (xR X).cells ∧ 7293034 ≤ (xR X).slots)
    (hfin : ∀ (c n : Nat) (S : SS) (L : List (Nat × Value)), c ≤ 601024 → n ≤ 7293034 → gW Y (xAt X c n) S 1820 L [.int (iI 1)]) :
    ∀ (fu : Nat) (i : Int) (c n : Nat) (S : SS), gB Y (xAt X c n) "NecklaceSistersLaw" cL_law 7 ret 100 → RR S → 0 ≤ i → (c : Int) ≤ 1000 + i → (n : Int) ≤ 10000 + 6 * i → i ≤ N + 4 → (N + 8 - i).toNat < fu → gW Y (xAt X c n) S 23 [(0, .ref b), (1, .ref (yA Y 72)), (2, .ref (yA Y 82)), (3, .ref (yA Y 91)), (4, .int (iI i))] [] := by
  intro fu
  induction fu with
  | zero =>
    intro i c n S _ _ _ _ _ _ hfu
    exact absurd hfu (Nat.not_lt_zero _)
  | succ fu ih =>
    intro i c n S B hR hi0 hc hn hiN hfu
    have hN : N ≤ 2048 := hX.2.2.2
    have hXc : gSc Y (xAt X c n) b N xs := hX
    have hstc : (xL (xAt X c n)).stackTraces = false := hst
    refine g_iload (q := 25) B dL_law_23 rfl 4 rfl ?_
    refine g_aload_n (q := 26) B dL_law_25 rfl 0 rfl ?_
    refine g_slen (q := 27) B hXc dL_law_26 rfl ?_
    refine g_iconst (q := 28) B dL_law_27 rfl ?_
    refine g_isub (q := 29) B dL_law_28 rfl ?_
    refine g_icmp_gt (t := 1819) (q := 32) B dL_law_29 (by decide) rfl ⟨by omega, by omega⟩ ⟨by omega, by omega⟩ (fun cq => ?_) (fun cq => ?_)
    · refine g_iconst (q := 1820) B dL_law_1819 rfl ?_
      exact hfin c n S _ (by omega) (by omega)
    · have h1 : xCells (xAt X c n) + 1 ≤ (xR (xAt X c n)).cells := Nat.le_trans (show c + 1 ≤ 601024 by omega) hro.1
      have h2 : xSlots (xAt X c n) + 6 ≤ (xR (xAt X c n)).slots := Nat.le_trans (show n + 6 ≤ 7293034 by omega) hro.2
      have k0 : ∀ S9 : SS, RR S9 → gW Y (xAt X c n) S9 1813 [(0, .ref b), (1, .ref (yA Y 72)), (2, .ref (yA Y 82)), (3, .ref (yA Y 91)), (4, .int (iI i))] [] := fun S9 h9 => law_next B (ih (i + 4) c n S9 B h9 (by omega) (by omega) (by omega) (by omega) (by omega))
      have k1 : ∀ S9 : SS, RR S9 → gW Y (xUp (xAt X c n)) S9 1813 [(0, .ref b), (1, .ref (yA Y 72)), (2, .ref (yA Y 82)), (3, .ref (yA Y 91)), (4, .int (iI i))] [] := fun S9 h9 => law_next (gB_up B h1 h2) (ih (i + 4) (c + 1) (n + 6) S9 (gB_up B h1 h2) h9 (by omega) (by omega) (by omega) (by omega) (by omega))
      refine g_aload_n (q := 33) B dL_law_32 rfl 0 rfl ?_
      refine g_iload (q := 35) B dL_law_33 rfl 4 rfl ?_
      refine g_sld (q := 36) B hXc dL_law_35 rfl (by omega) (by omega) ?_
      refine g_bipush (q := 38) B dL_law_36 rfl (by decide) ?_
      obtain ⟨a, ha, ha0, ha1⟩ := iI_and31 (iI (sI xs i))
      refine g_iand (q := 39) B dL_law_38 rfl ha ?_
      by_cases c0 : a = 0
      · refine g_tsIn (q := 172) (off := 133) (v := 0) B dL_law_39 c0 ⟨by decide, by decide, ⟨by decide, by decide⟩⟩ rfl (by decide) ?_
        exact lc_append B hstc hXc hR hi0 (by omega) h1 h2 k1
      by_cases c1 : a = 1
      · refine g_tsIn (q := 228) (off := 189) (v := 1) B dL_law_39 c1 ⟨by decide, by decide, ⟨by decide, by decide⟩⟩ rfl (by decide) ?_
        exact lc_clearText B hstc hXc hR hi0 (by omega) h1 h2 k0
      by_cases c2 : a = 2
      · refine g_tsIn (q := 241) (off := 202) (v := 2) B dL_law_39 c2 ⟨by decide, by decide, ⟨by decide, by decide⟩⟩ rfl (by decide) ?_
        exact lc_errorPosition B hstc hXc hR hi0 (by omega) h1 h2 k0
      by_cases c3 : a = 3
      · refine g_tsIn (q := 254) (off := 215) (v := 3) B dL_law_39 c3 ⟨by decide, by decide, ⟨by decide, by decide⟩⟩ rfl (by decide) ?_
        exact lc_load B hstc hXc hR hi0 (by omega) h1 h2 k1
      by_cases c4 : a = 4
      · refine g_tsIn (q := 298) (off := 259) (v := 4) B dL_law_39 c4 ⟨by decide, by decide, ⟨by decide, by decide⟩⟩ rfl (by decide) ?_
        exact lc_about B hstc hXc hR hi0 (by omega) h1 h2 k1
      by_cases c5 : a = 5
      · refine g_tsIn (q := 354) (off := 315) (v := 5) B dL_law_39 c5 ⟨by decide, by decide, ⟨by decide, by decide⟩⟩ rfl (by decide) ?_
        exact lc_jewelOf B hstc hXc hR hi0 (by omega) h1 h2 k1
      by_cases c6 : a = 6
      · refine g_tsIn (q := 422) (off := 383) (v := 6) B dL_law_39 c6 ⟨by decide, by decide, ⟨by decide, by decide⟩⟩ rfl (by decide) ?_
        exact lc_placeOf B hstc hXc hR hi0 (by omega) h1 h2 k1
      by_cases c7 : a = 7
      · refine g_tsIn (q := 490) (off := 451) (v := 7) B dL_law_39 c7 ⟨by decide, by decide, ⟨by decide, by decide⟩⟩ rfl (by decide) ?_
        exact lc_runOf B hstc hXc hR hi0 (by omega) h1 h2 k1
      by_cases c8 : a = 8
      · refine g_tsIn (q := 558) (off := 519) (v := 8) B dL_law_39 c8 ⟨by decide, by decide, ⟨by decide, by decide⟩⟩ rfl (by decide) ?_
        exact lc_has B hstc hXc hR hi0 (by omega) h1 h2 k1
      by_cases c9 : a = 9
      · refine g_tsIn (q := 626) (off := 587) (v := 9) B dL_law_39 c9 ⟨by decide, by decide, ⟨by decide, by decide⟩⟩ rfl (by decide) ?_
        exact lc_jewel B hstc hXc hR hi0 (by omega) h1 h2 k1
      by_cases c10 : a = 10
      · refine g_tsIn (q := 694) (off := 655) (v := 10) B dL_law_39 c10 ⟨by decide, by decide, ⟨by decide, by decide⟩⟩ rfl (by decide) ?_
        exact lc_exchange B hstc hXc hR hi0 (by omega) h1 h2 k1
      by_cases c11 : a = 11
      · refine g_tsIn (q := 762) (off := 723) (v := 11) B dL_law_39 c11 ⟨by decide, by decide, ⟨by decide, by decide⟩⟩ rfl (by decide) ?_
        exact lc_breakAt B hstc hXc hR hi0 (by omega) h1 h2 k1
      by_cases c12 : a = 12
      · refine g_tsIn (q := 818) (off := 779) (v := 12) B dL_law_39 c12 ⟨by decide, by decide, ⟨by decide, by decide⟩⟩ rfl (by decide) ?_
        exact lc_turnRound B hstc hXc hR hi0 (by omega) h1 h2 k0
      by_cases c13 : a = 13
      · refine g_tsIn (q := 831) (off := 792) (v := 13) B dL_law_39 c13 ⟨by decide, by decide, ⟨by decide, by decide⟩⟩ rfl (by decide) ?_
        exact lc_cut B hstc hXc hR hi0 (by omega) h1 h2 k1
      by_cases c14 : a = 14
      · refine g_tsIn (q := 915) (off := 876) (v := 14) B dL_law_39 c14 ⟨by decide, by decide, ⟨by decide, by decide⟩⟩ rfl (by decide) ?_
        exact lc_give B hstc hXc hR hi0 (by omega) h1 h2 k1
      by_cases c15 : a = 15
      · refine g_tsIn (q := 983) (off := 944) (v := 15) B dL_law_39 c15 ⟨by decide, by decide, ⟨by decide, by decide⟩⟩ rfl (by decide) ?_
        exact lc_take B hstc hXc hR hi0 (by omega) h1 h2 k1
      by_cases c16 : a = 16
      · refine g_tsIn (q := 1039) (off := 1000) (v := 16) B dL_law_39 c16 ⟨by decide, by decide, ⟨by decide, by decide⟩⟩ rfl (by decide) ?_
        exact lc_deal B hstc hXc hR hi0 (by omega) h1 h2 k1
      by_cases c17 : a = 17
      · refine g_tsIn (q := 1095) (off := 1056) (v := 17) B dL_law_39 c17 ⟨by decide, by decide, ⟨by decide, by decide⟩⟩ rfl (by decide) ?_
        exact lc_divide B hstc hXc hR hi0 (by omega) h1 h2 k1
      by_cases c18 : a = 18
      · refine g_tsIn (q := 1139) (off := 1100) (v := 18) B dL_law_39 c18 ⟨by decide, by decide, ⟨by decide, by decide⟩⟩ rfl (by decide) ?_
        exact lc_set B hstc hXc hR hi0 (by omega) h1 h2 k1
      by_cases c19 : a = 19
      · refine g_tsIn (q := 1195) (off := 1156) (v := 19) B dL_law_39 c19 ⟨by decide, by decide, ⟨by decide, by decide⟩⟩ rfl (by decide) ?_
        exact lc_undo B hstc hXc hR hi0 (by omega) h1 h2 k1
      by_cases c20 : a = 20
      · refine g_tsIn (q := 1239) (off := 1200) (v := 20) B dL_law_39 c20 ⟨by decide, by decide, ⟨by decide, by decide⟩⟩ rfl (by decide) ?_
        exact lc_fewest B hstc hXc hR hi0 (by omega) h1 h2 k1
      by_cases c21 : a = 21
      · refine g_tsIn (q := 1295) (off := 1256) (v := 21) B dL_law_39 c21 ⟨by decide, by decide, ⟨by decide, by decide⟩⟩ rfl (by decide) ?_
        exact lc_divided B hstc hXc hR hi0 (by omega) h1 h2 k1
      by_cases c22 : a = 22
      · refine g_tsIn (q := 1351) (off := 1312) (v := 22) B dL_law_39 c22 ⟨by decide, by decide, ⟨by decide, by decide⟩⟩ rfl (by decide) ?_
        exact lc_leastGap B hstc hXc hR hi0 (by omega) h1 h2 k1
      by_cases c23 : a = 23
      · refine g_tsIn (q := 1407) (off := 1368) (v := 23) B dL_law_39 c23 ⟨by decide, by decide, ⟨by decide, by decide⟩⟩ rfl (by decide) ?_
        exact lc_bestBreak B hstc hXc hR hi0 (by omega) h1 h2 k0
      by_cases c24 : a = 24
      · refine g_tsIn (q := 1420) (off := 1381) (v := 24) B dL_law_39 c24 ⟨by decide, by decide, ⟨by decide, by decide⟩⟩ rfl (by decide) ?_
        exact lc_bestRun B hstc hXc hR hi0 (by omega) h1 h2 k0
      by_cases c25 : a = 25
      · refine g_tsIn (q := 1433) (off := 1394) (v := 25) B dL_law_39 c25 ⟨by decide, by decide, ⟨by decide, by decide⟩⟩ rfl (by decide) ?_
        exact lc_ifGiven B hstc hXc hR hi0 (by omega) h1 h2 k1
      by_cases c26 : a = 26
      · refine g_tsIn (q := 1501) (off := 1462) (v := 26) B dL_law_39 c26 ⟨by decide, by decide, ⟨by decide, by decide⟩⟩ rfl (by decide) ?_
        exact lc_runScript B hstc hXc hR hi0 (by omega) h1 h2 k1
      by_cases c27 : a = 27
      · refine g_tsIn (q := 1601) (off := 1562) (v := 27) B dL_law_39 c27 ⟨by decide, by decide, ⟨by decide, by decide⟩⟩ rfl (by decide) ?_
        exact lc_simulate B hstc hXc hR hi0 (by omega) h1 h2 k1
      by_cases c28 : a = 28
      · refine g_tsIn (q := 1701) (off := 1662) (v := 28) B dL_law_39 c28 ⟨by decide, by decide, ⟨by decide, by decide⟩⟩ rfl (by decide) ?_
        exact lc_save B hstc hXc hR hi0 (by omega) h1 h2 k1
      by_cases c29 : a = 29
      · refine g_tsIn (q := 1757) (off := 1718) (v := 29) B dL_law_39 c29 ⟨by decide, by decide, ⟨by decide, by decide⟩⟩ rfl (by decide) ?_
        exact lc_restore B hstc hXc hR hi0 (by omega) h1 h2 k1
      refine g_tsOut (q := 1813) B dL_law_39 (by omega) ⟨by omega, by omega⟩ (by decide) ?_
      exact k0 S hR
