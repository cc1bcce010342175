/-! THE LAW'S BODY -/
theorem n_add1 {g : Int → Int} {k w : Int} (hc : (0 ≤ k ∧ k < 4) ∧ (1 ≤ w ∧ w ≤ 9) ∧ g 0 < 16) : addG g k w 0 = g 0 + 1 := by
  unfold addG
  rw [if_pos hc]
  show uq (uq (uq g (6 + g 0) k) (22 + g 0) w) 0 (g 0 + 1) 0 = _
  exact uq_eq _ _ _
set_option maxHeartbeats 16000000 in
theorem law_body {Y : gY} {X : gX} {b N : Nat} {xs : Nat → Int32} {ret : Option FieldType} (hst : (xL X).stackTraces = false) (hsc : gSc Y b N xs (xS X)) (hro : 100000 ≤ (xR X).cells ∧ 6 * 100000 ≤ (xR X).slots)
    (hfin : ∀ (c : Nat) (S : SS) (L : List (Nat × Value)), c ≤ 100000 → gW Y (xK X c) S 287 L [.int (iI 1)]) {S : SS} {P : PT} (A0 : PK P S) (D0 : PK P (sS S)) (W0 : WF0 P) (C0 : CH 0 P) (F0a : pF P = 0) (F0b : pF2 P = 0) (n0 : pG P 0 = 0) (B : gB Y (xK X 500) "NecklaceSistersLaw" cL_law 9 ret 100) : gW Y (xK X 500) S 16 [(0, .ref b), (1, .ref (yA Y 72)), (2, .ref (yA Y 172))] [] := by
  have E : True ∧ 100000 ≤ (xR X).cells ∧ 6 * 100000 ≤ (xR X).slots := ⟨trivial, hro⟩
  have lp136 : ∀ (fu : Nat) (tn k : Int) (c : Nat) (S1 : SS) (P : PT), (0 ≤ tn ∧ tn ≤ 40) → OK P → PK P S1 → PK P (sS S1) → gB Y (xK X c) "NecklaceSistersLaw" cL_law 9 ret 100 → 0 ≤ k → k ≤ tn → (c : Int) ≤ 2000 + 1000 * k → (tn - k).toNat < fu → gW Y (xK X c) S1 136 [(0, .ref b), (1, .ref (yA Y 72)), (2, .ref (yA Y 172)), (3, .int (iI tn)), (5, .int (iI 1)), (6, .int (iI k))] [] := by
    intro fu
    induction fu with
    | zero =>
      intro tn k c S1 P _ _ _ _ _ _ _ _ h
      exact absurd h (Nat.not_lt_zero _)
    | succ fu ih =>
      intro tn k c S1 P ht V A1 D1 B1 k0 k1 hc hfu
      refine g_iload (q := 138) B1 dL_law_136 rfl 5 rfl ?_
      refine g_iload_n (q := 139) B1 dL_law_138 rfl 3 rfl ?_
      refine g_icmp_ge (t := 285) (q := 142) B1 dL_law_139 (by decide) rfl ⟨by omega, by omega⟩ ⟨by omega, by omega⟩ (fun cq139 => ?_) (fun cq139 => ?_)
      · refine g_iload (q := 287) B1 dL_law_285 rfl 4 rfl ?_
        exact hfin _ _ _ (by omega)
      · refine g_iload (q := 144) B1 dL_law_142 rfl 4 rfl ?_
        refine g_if_eq (t := 285) (q := 147) B1 dL_law_144 (by decide) rfl ⟨by omega, by omega⟩ (fun cq144 => absurd cq144 (by decide)) (fun cq144 => ?_)
        refine g_aload_n (q := 148) B1 dL_law_147 rfl 0 rfl ?_
        refine g_iconst (q := 149) B1 dL_law_148 rfl ?_
        refine g_iload (q := 151) B1 dL_law_149 rfl 5 rfl ?_
        refine g_iadd (q := 152) B1 dL_law_151 rfl ?_
        refine g_callC (q := 155) (As := [.ref b, .int (iI (2 + k))]) (st := []) B1 hsc dL_law_152 rfl (c_cell (Y := Y) (S := S1) (2 + k) ⟨by omega, by omega⟩) eL_cell w836 (by decide) rfl rfl (Nat.le_of_ble_eq_true rfl) (Nat.le_trans (show c ≤ 100000 by omega) E.2.1) (Nat.le_trans (show 6 * (c) ≤ 6 * 100000 by omega) E.2.2) (fun v S2 hS2 => ?_)
        obtain ⟨z2, hz2, rfl, eS2⟩ := hS2
        rw [eS2]
        show gW Y (xK X (c)) S1 155 [(0, .ref b), (1, .ref (yA Y 72)), (2, .ref (yA Y 172)), (3, .int (iI tn)), (5, .int (iI 1)), (6, .int (iI k))] [.int (iI z2)]
        have hzz := hz2
        refine g_istore (q := 157) B1 dL_law_155 rfl (by decide) (L' := [(7, .int (iI z2)), (0, .ref b), (1, .ref (yA Y 72)), (2, .ref (yA Y 172)), (3, .int (iI tn)), (5, .int (iI 1)), (6, .int (iI k))]) rfl ?_
        refine g_aload_n (q := 158) B1 dL_law_157 rfl 2 rfl ?_
        refine g_iload (q := 160) B1 dL_law_158 rfl 0 rfl ?_
        obtain ⟨P1, hP1⟩ : ∃ z : PT, (acF P z2).2 = z := ⟨_, rfl⟩
        obtain ⟨ta, hta⟩ : ∃ z : Int, oI (acF P z2).1 = z := ⟨_, rfl⟩
        have rta : rI ta := by rw [← hta]; exact oI_in _
        have V1 : OK P1 := by rw [← hP1]; exact ac_ok V (by omega)
        refine g_callN (q := 163) (m1 := 3) (c2 := c + 3) (As := [.ref (yA Y 72), .int (iI z2)]) (st := []) B1 dL_law_160 rfl (c_act (Y := Y) (S := S1) hst A1 V.1 V.2 z2 ⟨by omega, by omega⟩) eL_act w919 (by decide) rfl rfl (Nat.le_of_ble_eq_true rfl) (by omega) (Nat.le_trans (show c + 3 ≤ 100000 by omega) E.2.1) (Nat.le_trans (show 6 * (c + 3) ≤ 6 * 100000 by omega) E.2.2) (fun v S3 hS3 => ?_)
        rw [hta, hP1] at hS3
        obtain ⟨rfl, A3, K3⟩ := hS3
        have D3 := PK_o2 D1 K3
        have B4 := gB_K (c := c + 3) B1 (Nat.le_trans (show c + 3 ≤ 100000 by omega) E.2.1) (Nat.le_trans (show 6 * (c + 3) ≤ 6 * 100000 by omega) E.2.2)
        show gW Y (xK X (c + 3)) S3 163 [(7, .int (iI z2)), (0, .ref b), (1, .ref (yA Y 72)), (2, .ref (yA Y 172)), (3, .int (iI tn)), (5, .int (iI 1)), (6, .int (iI k))] [.int (iI ta)]
        refine g_istore (q := 165) B4 dL_law_163 rfl (by decide) (L' := [(8, .int (iI ta)), (7, .int (iI z2)), (0, .ref b), (1, .ref (yA Y 72)), (2, .ref (yA Y 172)), (3, .int (iI tn)), (5, .int (iI 1)), (6, .int (iI k))]) rfl ?_
        refine g_aload_n (q := 166) B4 dL_law_165 rfl 4 rfl ?_
        refine g_iload (q := 168) B4 dL_law_166 rfl 1 rfl ?_
        refine g_ldc (z := 100000) (q := 170) B4 dL_law_168 rfl w947 (by decide) ?_
        refine g_irem (q := 171) B4 dL_law_170 rfl (by omega) (by omega) (by omega) (by omega) ?_
        refine g_callN (q := 174) (m1 := 36) (c2 := c + 39) (As := [.ref (yA Y 172), .int (iI (z2 % 100000))]) (st := []) B4 dL_law_171 rfl (gN_sw (c_refuses (Y := ySw Y) (S := sS S3) hst D3 V.1 V.2 (z2 % 100000) ⟨by omega, by omega⟩)) eL_refuses w841 (by decide) rfl rfl (Nat.le_of_ble_eq_true rfl) (by omega) (Nat.le_trans (show c + 39 ≤ 100000 by omega) E.2.1) (Nat.le_trans (show 6 * (c + 39) ≤ 6 * 100000 by omega) E.2.2) (fun v S5 hS5 => ?_)
        obtain ⟨rfl, D5, K5⟩ := hS5
        have A5 := PK_o1 A3 K5
        have B6 := gB_K (c := c + 39) B4 (Nat.le_trans (show c + 39 ≤ 100000 by omega) E.2.1) (Nat.le_trans (show 6 * (c + 39) ≤ 6 * 100000 by omega) E.2.2)
        show gW Y (xK X (c + 39)) S5 174 [(8, .int (iI ta)), (7, .int (iI z2)), (0, .ref b), (1, .ref (yA Y 72)), (2, .ref (yA Y 172)), (3, .int (iI tn)), (5, .int (iI 1)), (6, .int (iI k))] [.int (iI 1)]
        refine g_if_eq (t := 276) (q := 177) B6 dL_law_174 (by decide) rfl ⟨by omega, by omega⟩ (fun cq174 => absurd cq174 (by decide)) (fun cq174 => ?_)
        refine g_aload_n (q := 178) B6 dL_law_177 rfl 4 rfl ?_
        refine g_iload (q := 180) B6 dL_law_178 rfl 1 rfl ?_
        refine g_callN (q := 183) (m1 := 3) (c2 := c + 42) (As := [.ref (yA Y 172), .int (iI z2)]) (st := []) B6 dL_law_180 rfl (gN_sw (c_act (Y := ySw Y) (S := sS S5) hst D5 V.1 V.2 z2 ⟨by omega, by omega⟩)) eL_act w919 (by decide) rfl rfl (Nat.le_of_ble_eq_true rfl) (by omega) (Nat.le_trans (show c + 42 ≤ 100000 by omega) E.2.1) (Nat.le_trans (show 6 * (c + 42) ≤ 6 * 100000 by omega) E.2.2) (fun v S7 hS7 => ?_)
        have hS7 : qP (oI (acF P z2).1) (acF P z2).2 (sS S5) v (sS S7) := hS7
        rw [hta, hP1] at hS7
        obtain ⟨rfl, D7, K7⟩ := hS7
        have A7 := PK_o1 A5 K7
        have B8 := gB_K (c := c + 42) B6 (Nat.le_trans (show c + 42 ≤ 100000 by omega) E.2.1) (Nat.le_trans (show 6 * (c + 42) ≤ 6 * 100000 by omega) E.2.2)
        show gW Y (xK X (c + 42)) S7 183 [(8, .int (iI ta)), (7, .int (iI z2)), (0, .ref b), (1, .ref (yA Y 72)), (2, .ref (yA Y 172)), (3, .int (iI tn)), (5, .int (iI 1)), (6, .int (iI k))] [.int (iI ta)]
        refine g_iload (q := 185) B8 dL_law_183 rfl 0 rfl ?_
        refine g_icmp_ne (t := 276) (q := 188) B8 dL_law_185 (by decide) rfl rta rta (fun cq185 => absurd cq185 (by omega)) (fun cq185 => ?_)
        refine g_aload_n (q := 189) B8 dL_law_188 rfl 4 rfl ?_
        refine g_iload (q := 191) B8 dL_law_189 rfl 1 rfl ?_
        refine g_sipush (q := 194) B8 dL_law_191 rfl (by decide) ?_
        refine g_irem (q := 195) B8 dL_law_194 rfl (by omega) (by omega) (by omega) (by omega) ?_
        refine g_callN (q := 198) (m1 := 36) (c2 := c + 78) (As := [.ref (yA Y 172), .int (iI (z2 % 1000))]) (st := []) B8 dL_law_195 rfl (gN_sw (c_refuses (Y := ySw Y) (S := sS S7) hst D7 V1.1 V1.2 (z2 % 1000) ⟨by omega, by omega⟩)) eL_refuses w841 (by decide) rfl rfl (Nat.le_of_ble_eq_true rfl) (by omega) (Nat.le_trans (show c + 78 ≤ 100000 by omega) E.2.1) (Nat.le_trans (show 6 * (c + 78) ≤ 6 * 100000 by omega) E.2.2) (fun v S9 hS9 => ?_)
        obtain ⟨rfl, D9, K9⟩ := hS9
        have A9 := PK_o1 A7 K9
        have B10 := gB_K (c := c + 78) B8 (Nat.le_trans (show c + 78 ≤ 100000 by omega) E.2.1) (Nat.le_trans (show 6 * (c + 78) ≤ 6 * 100000 by omega) E.2.2)
        show gW Y (xK X (c + 78)) S9 198 [(8, .int (iI ta)), (7, .int (iI z2)), (0, .ref b), (1, .ref (yA Y 72)), (2, .ref (yA Y 172)), (3, .int (iI tn)), (5, .int (iI 1)), (6, .int (iI k))] [.int (iI 1)]
        refine g_if_eq (t := 276) (q := 201) B10 dL_law_198 (by decide) rfl ⟨by omega, by omega⟩ (fun cq198 => absurd cq198 (by decide)) (fun cq198 => ?_)
        refine g_aload_n (q := 202) B10 dL_law_201 rfl 3 rfl ?_
        refine g_aload_n (q := 203) B10 dL_law_202 rfl 4 rfl ?_
        refine g_iload (q := 205) B10 dL_law_203 rfl 1 rfl ?_
        refine g_sipush (q := 208) B10 dL_law_205 rfl (by decide) ?_
        refine g_irem (q := 209) B10 dL_law_208 rfl (by omega) (by omega) (by omega) (by omega) ?_
        refine g_callN (q := 212) (m1 := 200) (c2 := c + 278) (As := [.ref (yA Y 72), .ref (yA Y 172), .int (iI (z2 % 5000))]) (st := []) B10 dL_law_209 rfl (c_alike (Y := Y) (S := S9) hst A9 D9 V1.1 (z2 % 5000) ⟨by omega, by omega⟩) eL_alike w927 (by decide) rfl rfl (Nat.le_of_ble_eq_true rfl) (by omega) (Nat.le_trans (show c + 278 ≤ 100000 by omega) E.2.1) (Nat.le_trans (show 6 * (c + 278) ≤ 6 * 100000 by omega) E.2.2) (fun v S11 hS11 => ?_)
        obtain ⟨rfl, A11, D11⟩ := hS11
        have B12 := gB_K (c := c + 278) B10 (Nat.le_trans (show c + 278 ≤ 100000 by omega) E.2.1) (Nat.le_trans (show 6 * (c + 278) ≤ 6 * 100000 by omega) E.2.2)
        show gW Y (xK X (c + 278)) S11 212 [(8, .int (iI ta)), (7, .int (iI z2)), (0, .ref b), (1, .ref (yA Y 72)), (2, .ref (yA Y 172)), (3, .int (iI tn)), (5, .int (iI 1)), (6, .int (iI k))] [.int (iI 1)]
        refine g_if_eq (t := 276) (q := 215) B12 dL_law_212 (by decide) rfl ⟨by omega, by omega⟩ (fun cq212 => absurd cq212 (by decide)) (fun cq212 => ?_)
        refine g_iload (q := 217) B12 dL_law_215 rfl 7 rfl ?_
        refine g_iconst (q := 218) B12 dL_law_217 rfl ?_
        refine g_irem (q := 219) B12 dL_law_218 rfl (by omega) (by omega) (by omega) (by omega) ?_
        refine g_if_ne (t := 232) (q := 222) B12 dL_law_219 (by decide) rfl ⟨by omega, by omega⟩ (fun cq219 => ?_) (fun cq219 => ?_)
        · refine g_aload_n (q := 233) B12 dL_law_232 rfl 4 rfl ?_
          refine g_callN (q := 236) (m1 := 400) (c2 := c + 678) (As := [.ref (yA Y 172)]) (st := []) B12 dL_law_233 rfl (gN_sw (c_holds (Y := ySw Y) (S := sS S11) hst D11 V1)) eL_holds w916 (by decide) rfl rfl (Nat.le_of_ble_eq_true rfl) (by omega) (Nat.le_trans (show c + 678 ≤ 100000 by omega) E.2.1) (Nat.le_trans (show 6 * (c + 678) ≤ 6 * 100000 by omega) E.2.2) (fun v S13 hS13 => ?_)
          obtain ⟨rfl, D13, K13⟩ := hS13
          have A13 := PK_o1 A11 K13
          have B14 := gB_K (c := c + 678) B12 (Nat.le_trans (show c + 678 ≤ 100000 by omega) E.2.1) (Nat.le_trans (show 6 * (c + 678) ≤ 6 * 100000 by omega) E.2.2)
          show gW Y (xK X (c + 678)) S13 236 [(8, .int (iI ta)), (7, .int (iI z2)), (0, .ref b), (1, .ref (yA Y 72)), (2, .ref (yA Y 172)), (3, .int (iI tn)), (5, .int (iI 1)), (6, .int (iI k))] [.int (iI 1)]
          refine g_if_eq (t := 276) (q := 239) B14 dL_law_236 (by decide) rfl ⟨by omega, by omega⟩ (fun cq236 => absurd cq236 (by decide)) (fun cq236 => ?_)
          refine g_aload_n (q := 240) B14 dL_law_239 rfl 3 rfl ?_
          refine g_aload_n (q := 241) B14 dL_law_240 rfl 4 rfl ?_
          refine g_iload (q := 243) B14 dL_law_241 rfl 1 rfl ?_
          refine g_bipush (q := 245) B14 dL_law_243 rfl (by decide) ?_
          refine g_idiv (q := 246) B14 dL_law_245 rfl (by omega) (by omega) (by omega) (by omega) ?_
          refine g_callN (q := 249) (m1 := 40) (c2 := c + 718) (As := [.ref (yA Y 72), .ref (yA Y 172), .int (iI (z2 / 7))]) (st := []) B14 dL_law_246 rfl (c_takes (Y := Y) (S := S13) hst A13 D13 V1 (z2 / 7) ⟨by omega, by omega⟩) eL_takes w934 (by decide) rfl rfl (Nat.le_of_ble_eq_true rfl) (by omega) (Nat.le_trans (show c + 718 ≤ 100000 by omega) E.2.1) (Nat.le_trans (show 6 * (c + 718) ≤ 6 * 100000 by omega) E.2.2) (fun v S15 hS15 => ?_)
          obtain ⟨rfl, P15, V15, A15, D15⟩ := hS15
          have B16 := gB_K (c := c + 718) B14 (Nat.le_trans (show c + 718 ≤ 100000 by omega) E.2.1) (Nat.le_trans (show 6 * (c + 718) ≤ 6 * 100000 by omega) E.2.2)
          show gW Y (xK X (c + 718)) S15 249 [(8, .int (iI ta)), (7, .int (iI z2)), (0, .ref b), (1, .ref (yA Y 72)), (2, .ref (yA Y 172)), (3, .int (iI tn)), (5, .int (iI 1)), (6, .int (iI k))] [.int (iI 1)]
          refine g_if_eq (t := 276) (q := 252) B16 dL_law_249 (by decide) rfl ⟨by omega, by omega⟩ (fun cq249 => absurd cq249 (by decide)) (fun cq249 => ?_)
          refine g_iload (q := 254) B16 dL_law_252 rfl 7 rfl ?_
          refine g_iconst (q := 255) B16 dL_law_254 rfl ?_
          refine g_irem (q := 256) B16 dL_law_255 rfl (by omega) (by omega) (by omega) (by omega) ?_
          refine g_if_gt (t := 272) (q := 259) B16 dL_law_256 (by decide) rfl ⟨by omega, by omega⟩ (fun cq256 => ?_) (fun cq256 => ?_)
          · refine g_iconst (q := 273) B16 dL_law_272 rfl ?_
            refine g_goto (q := 277) B16 dL_law_273 (by decide) ?_
            refine g_istore (q := 279) B16 dL_law_277 rfl (by decide) (L' := [(5, .int (iI 1)), (8, .int (iI ta)), (7, .int (iI z2)), (0, .ref b), (1, .ref (yA Y 72)), (2, .ref (yA Y 172)), (3, .int (iI tn)), (6, .int (iI k))]) rfl ?_
            refine g_iinc (n := 7) (q := 282) B16 dL_law_279 rfl rfl (by decide) (L' := [(6, .int (iI (k + 1))), (5, .int (iI 1)), (8, .int (iI ta)), (7, .int (iI z2)), (0, .ref b), (1, .ref (yA Y 72)), (2, .ref (yA Y 172)), (3, .int (iI tn))]) rfl ?_
            refine g_goto (q := 136) B16 dL_law_282 (by decide) ?_
            refine g_sub [4, 5, 6, 7, 1, 0] rfl ?_
            exact ih tn (k + 1) (c + 718) S15 P15 ht V15 A15 D15 B16 (by omega) (by omega) (by omega) (by omega)
          · refine g_aload_n (q := 260) B16 dL_law_259 rfl 3 rfl ?_
            refine g_aload_n (q := 261) B16 dL_law_260 rfl 4 rfl ?_
            refine g_iload (q := 263) B16 dL_law_261 rfl 1 rfl ?_
            refine g_bipush (q := 265) B16 dL_law_263 rfl (by decide) ?_
            refine g_idiv (q := 266) B16 dL_law_265 rfl (by omega) (by omega) (by omega) (by omega) ?_
            refine g_callN (q := 269) (m1 := 40) (c2 := c + 758) (As := [.ref (yA Y 72), .ref (yA Y 172), .int (iI (z2 / 11))]) (st := []) B16 dL_law_266 rfl (c_divides (Y := Y) (S := S15) hst A15 D15 V15 (z2 / 11) ⟨by omega, by omega⟩) eL_divides w940 (by decide) rfl rfl (Nat.le_of_ble_eq_true rfl) (by omega) (Nat.le_trans (show c + 758 ≤ 100000 by omega) E.2.1) (Nat.le_trans (show 6 * (c + 758) ≤ 6 * 100000 by omega) E.2.2) (fun v S17 hS17 => ?_)
            obtain ⟨rfl, P17, V17, A17, D17⟩ := hS17
            have B18 := gB_K (c := c + 758) B16 (Nat.le_trans (show c + 758 ≤ 100000 by omega) E.2.1) (Nat.le_trans (show 6 * (c + 758) ≤ 6 * 100000 by omega) E.2.2)
            show gW Y (xK X (c + 758)) S17 269 [(8, .int (iI ta)), (7, .int (iI z2)), (0, .ref b), (1, .ref (yA Y 72)), (2, .ref (yA Y 172)), (3, .int (iI tn)), (5, .int (iI 1)), (6, .int (iI k))] [.int (iI 1)]
            refine g_if_eq (t := 276) (q := 272) B18 dL_law_269 (by decide) rfl ⟨by omega, by omega⟩ (fun cq269 => absurd cq269 (by decide)) (fun cq269 => ?_)
            refine g_iconst (q := 273) B18 dL_law_272 rfl ?_
            refine g_goto (q := 277) B18 dL_law_273 (by decide) ?_
            refine g_istore (q := 279) B18 dL_law_277 rfl (by decide) (L' := [(5, .int (iI 1)), (8, .int (iI ta)), (7, .int (iI z2)), (0, .ref b), (1, .ref (yA Y 72)), (2, .ref (yA Y 172)), (3, .int (iI tn)), (6, .int (iI k))]) rfl ?_
            refine g_iinc (n := 7) (q := 282) B18 dL_law_279 rfl rfl (by decide) (L' := [(6, .int (iI (k + 1))), (5, .int (iI 1)), (8, .int (iI ta)), (7, .int (iI z2)), (0, .ref b), (1, .ref (yA Y 72)), (2, .ref (yA Y 172)), (3, .int (iI tn))]) rfl ?_
            refine g_goto (q := 136) B18 dL_law_282 (by decide) ?_
            refine g_sub [4, 5, 6, 7, 1, 0] rfl ?_
            exact ih tn (k + 1) (c + 758) S17 P17 ht V17 A17 D17 B18 (by omega) (by omega) (by omega) (by omega)
        · refine g_aload_n (q := 223) B12 dL_law_222 rfl 3 rfl ?_
          refine g_callN (q := 226) (m1 := 400) (c2 := c + 678) (As := [.ref (yA Y 72)]) (st := []) B12 dL_law_223 rfl (c_holds (Y := Y) (S := S11) hst A11 V1) eL_holds w916 (by decide) rfl rfl (Nat.le_of_ble_eq_true rfl) (by omega) (Nat.le_trans (show c + 678 ≤ 100000 by omega) E.2.1) (Nat.le_trans (show 6 * (c + 678) ≤ 6 * 100000 by omega) E.2.2) (fun v S19 hS19 => ?_)
          obtain ⟨rfl, A19, K19⟩ := hS19
          have D19 := PK_o2 D11 K19
          have B20 := gB_K (c := c + 678) B12 (Nat.le_trans (show c + 678 ≤ 100000 by omega) E.2.1) (Nat.le_trans (show 6 * (c + 678) ≤ 6 * 100000 by omega) E.2.2)
          show gW Y (xK X (c + 678)) S19 226 [(8, .int (iI ta)), (7, .int (iI z2)), (0, .ref b), (1, .ref (yA Y 72)), (2, .ref (yA Y 172)), (3, .int (iI tn)), (5, .int (iI 1)), (6, .int (iI k))] [.int (iI 1)]
          refine g_if_eq (t := 276) (q := 229) B20 dL_law_226 (by decide) rfl ⟨by omega, by omega⟩ (fun cq226 => absurd cq226 (by decide)) (fun cq226 => ?_)
          refine g_goto (q := 239) B20 dL_law_229 (by decide) ?_
          refine g_aload_n (q := 240) B20 dL_law_239 rfl 3 rfl ?_
          refine g_aload_n (q := 241) B20 dL_law_240 rfl 4 rfl ?_
          refine g_iload (q := 243) B20 dL_law_241 rfl 1 rfl ?_
          refine g_bipush (q := 245) B20 dL_law_243 rfl (by decide) ?_
          refine g_idiv (q := 246) B20 dL_law_245 rfl (by omega) (by omega) (by omega) (by omega) ?_
          refine g_callN (q := 249) (m1 := 40) (c2 := c + 718) (As := [.ref (yA Y 72), .ref (yA Y 172), .int (iI (z2 / 7))]) (st := []) B20 dL_law_246 rfl (c_takes (Y := Y) (S := S19) hst A19 D19 V1 (z2 / 7) ⟨by omega, by omega⟩) eL_takes w934 (by decide) rfl rfl (Nat.le_of_ble_eq_true rfl) (by omega) (Nat.le_trans (show c + 718 ≤ 100000 by omega) E.2.1) (Nat.le_trans (show 6 * (c + 718) ≤ 6 * 100000 by omega) E.2.2) (fun v S21 hS21 => ?_)
          obtain ⟨rfl, P21, V21, A21, D21⟩ := hS21
          have B22 := gB_K (c := c + 718) B20 (Nat.le_trans (show c + 718 ≤ 100000 by omega) E.2.1) (Nat.le_trans (show 6 * (c + 718) ≤ 6 * 100000 by omega) E.2.2)
          show gW Y (xK X (c + 718)) S21 249 [(8, .int (iI ta)), (7, .int (iI z2)), (0, .ref b), (1, .ref (yA Y 72)), (2, .ref (yA Y 172)), (3, .int (iI tn)), (5, .int (iI 1)), (6, .int (iI k))] [.int (iI 1)]
          refine g_if_eq (t := 276) (q := 252) B22 dL_law_249 (by decide) rfl ⟨by omega, by omega⟩ (fun cq249 => absurd cq249 (by decide)) (fun cq249 => ?_)
          refine g_iload (q := 254) B22 dL_law_252 rfl 7 rfl ?_
          refine g_iconst (q := 255) B22 dL_law_254 rfl ?_
          refine g_irem (q := 256) B22 dL_law_255 rfl (by omega) (by omega) (by omega) (by omega) ?_
          refine g_if_gt (t := 272) (q := 259) B22 dL_law_256 (by decide) rfl ⟨by omega, by omega⟩ (fun cq256 => ?_) (fun cq256 => ?_)
          · refine g_iconst (q := 273) B22 dL_law_272 rfl ?_
            refine g_goto (q := 277) B22 dL_law_273 (by decide) ?_
            refine g_istore (q := 279) B22 dL_law_277 rfl (by decide) (L' := [(5, .int (iI 1)), (8, .int (iI ta)), (7, .int (iI z2)), (0, .ref b), (1, .ref (yA Y 72)), (2, .ref (yA Y 172)), (3, .int (iI tn)), (6, .int (iI k))]) rfl ?_
            refine g_iinc (n := 7) (q := 282) B22 dL_law_279 rfl rfl (by decide) (L' := [(6, .int (iI (k + 1))), (5, .int (iI 1)), (8, .int (iI ta)), (7, .int (iI z2)), (0, .ref b), (1, .ref (yA Y 72)), (2, .ref (yA Y 172)), (3, .int (iI tn))]) rfl ?_
            refine g_goto (q := 136) B22 dL_law_282 (by decide) ?_
            refine g_sub [4, 5, 6, 7, 1, 0] rfl ?_
            exact ih tn (k + 1) (c + 718) S21 P21 ht V21 A21 D21 B22 (by omega) (by omega) (by omega) (by omega)
          · refine g_aload_n (q := 260) B22 dL_law_259 rfl 3 rfl ?_
            refine g_aload_n (q := 261) B22 dL_law_260 rfl 4 rfl ?_
            refine g_iload (q := 263) B22 dL_law_261 rfl 1 rfl ?_
            refine g_bipush (q := 265) B22 dL_law_263 rfl (by decide) ?_
            refine g_idiv (q := 266) B22 dL_law_265 rfl (by omega) (by omega) (by omega) (by omega) ?_
            refine g_callN (q := 269) (m1 := 40) (c2 := c + 758) (As := [.ref (yA Y 72), .ref (yA Y 172), .int (iI (z2 / 11))]) (st := []) B22 dL_law_266 rfl (c_divides (Y := Y) (S := S21) hst A21 D21 V21 (z2 / 11) ⟨by omega, by omega⟩) eL_divides w940 (by decide) rfl rfl (Nat.le_of_ble_eq_true rfl) (by omega) (Nat.le_trans (show c + 758 ≤ 100000 by omega) E.2.1) (Nat.le_trans (show 6 * (c + 758) ≤ 6 * 100000 by omega) E.2.2) (fun v S23 hS23 => ?_)
            obtain ⟨rfl, P23, V23, A23, D23⟩ := hS23
            have B24 := gB_K (c := c + 758) B22 (Nat.le_trans (show c + 758 ≤ 100000 by omega) E.2.1) (Nat.le_trans (show 6 * (c + 758) ≤ 6 * 100000 by omega) E.2.2)
            show gW Y (xK X (c + 758)) S23 269 [(8, .int (iI ta)), (7, .int (iI z2)), (0, .ref b), (1, .ref (yA Y 72)), (2, .ref (yA Y 172)), (3, .int (iI tn)), (5, .int (iI 1)), (6, .int (iI k))] [.int (iI 1)]
            refine g_if_eq (t := 276) (q := 272) B24 dL_law_269 (by decide) rfl ⟨by omega, by omega⟩ (fun cq269 => absurd cq269 (by decide)) (fun cq269 => ?_)
            refine g_iconst (q := 273) B24 dL_law_272 rfl ?_
            refine g_goto (q := 277) B24 dL_law_273 (by decide) ?_
            refine g_istore (q := 279) B24 dL_law_277 rfl (by decide) (L' := [(5, .int (iI 1)), (8, .int (iI ta)), (7, .int (iI z2)), (0, .ref b), (1, .ref (yA Y 72)), (2, .ref (yA Y 172)), (3, .int (iI tn)), (6, .int (iI k))]) rfl ?_
            refine g_iinc (n := 7) (q := 282) B24 dL_law_279 rfl rfl (by decide) (L' := [(6, .int (iI (k + 1))), (5, .int (iI 1)), (8, .int (iI ta)), (7, .int (iI z2)), (0, .ref b), (1, .ref (yA Y 72)), (2, .ref (yA Y 172)), (3, .int (iI tn))]) rfl ?_
            refine g_goto (q := 136) B24 dL_law_282 (by decide) ?_
            refine g_sub [4, 5, 6, 7, 1, 0] rfl ?_
            exact ih tn (k + 1) (c + 758) S23 P23 ht V23 A23 D23 B24 (by omega) (by omega) (by omega) (by omega)
  have lp41 : ∀ (fu : Nat) (tn x0 j : Int) (c : Nat) (S1 : SS) (P : PT), (0 ≤ tn ∧ tn ≤ 40) → WF0 P → CH 0 P → pF P = 0 → pF2 P = 0 → pG P 0 = j → PK P S1 → PK P (sS S1) → gB Y (xK X c) "NecklaceSistersLaw" cL_law 9 ret 100 → 0 ≤ j → j ≤ 4 → (c : Int) ≤ 500 + 2 * j → (4 - j).toNat < fu → gW Y (xK X c) S1 41 [(0, .ref b), (1, .ref (yA Y 72)), (2, .ref (yA Y 172)), (3, .int (iI tn)), (4, .int (iI x0)), (5, .int (iI 1)), (6, .int (iI j))] [] := by
    intro fu
    induction fu with
    | zero =>
      intro tn x0 j c S1 P _ _ _ _ _ _ _ _ _ _ _ _ h
      exact absurd h (Nat.not_lt_zero _)
    | succ fu ih =>
      intro tn x0 j c S1 P ht W1 C1 F1 F2 hn A1 D1 B1 j0 j1 hc hfu
      refine g_iload (q := 43) B1 dL_law_41 rfl 6 rfl ?_
      refine g_iconst (q := 44) B1 dL_law_43 rfl ?_
      refine g_icmp_ge (t := 133) (q := 47) B1 dL_law_44 (by decide) rfl ⟨by omega, by omega⟩ ⟨by omega, by omega⟩ (fun cq44 => ?_) (fun cq44 => ?_)
      · have V4 : OK P := ⟨W1, by omega, fun z => absurd (F1.symm.trans z) (by decide), fun z => absurd (F2.symm.trans z) (by decide), C1.2.2.2⟩
        refine g_iconst (q := 134) B1 dL_law_133 rfl ?_
        refine g_istore (q := 136) B1 dL_law_134 rfl (by decide) (L' := [(6, .int (iI 0)), (0, .ref b), (1, .ref (yA Y 72)), (2, .ref (yA Y 172)), (3, .int (iI tn)), (4, .int (iI x0)), (5, .int (iI 1))]) rfl ?_
        refine g_sub [1, 2, 3, 4, 6, 0] rfl ?_
        exact lp136 _ tn 0 (c) S1 P ht V4 A1 D1 B1 (by omega) (by omega) (by omega) (Nat.lt_succ_self _)
      · refine g_iload (q := 49) B1 dL_law_47 rfl 5 rfl ?_
        refine g_if_eq (t := 133) (q := 52) B1 dL_law_49 (by decide) rfl ⟨by omega, by omega⟩ (fun cq49 => absurd cq49 (by decide)) (fun cq49 => ?_)
        obtain ⟨s1, hs1⟩ : ∃ t : Int, (iI x0) >>> ((iI (3 * j)) &&& 31) = iI t := ⟨((iI x0) >>> ((iI (3 * j)) &&& 31)).toInt, (Int32.ofInt_toInt _).symm⟩
        obtain ⟨ka, hka, ka0, ka1⟩ := iI_andm (iI s1) 1 (by decide)
        have hka2 : iI s1 &&& iI 1 = iI ka := hka
        have ka2 : ka < 2 := ka1
        obtain ⟨s2, hs2⟩ : ∃ t : Int, (iI x0) >>> ((iI ((3 * j) + 1)) &&& 31) = iI t := ⟨((iI x0) >>> ((iI ((3 * j) + 1)) &&& 31)).toInt, (Int32.ofInt_toInt _).symm⟩
        obtain ⟨wa, hwa, wa0, wa1⟩ := iI_andm (iI s2) 2 (by decide)
        have hwa2 : iI s2 &&& iI 3 = iI wa := hwa
        have wa2 : wa < 4 := wa1
        have hcd : cd_jewel (pG P) ka (1 + wa) = 0 := (if_pos (by omega)).trans ((if_pos (by omega)).trans (if_pos (by omega)))
        obtain ⟨P1, hP1⟩ : ∃ z : PT, pPush P (addG (pG P) ka (1 + wa)) = z := ⟨_, rfl⟩
        have nA : addG (pG P) ka (1 + wa) 0 = pG P 0 + 1 := n_add1 ⟨by omega, by omega, by omega⟩
        have W2 : WF0 P1 := by rw [← hP1]; exact WF_push W1 (wf_addG W1.1 _ _)
        have C2 : CH 0 P1 := by rw [← hP1]; exact CH_push W1 C1 (by omega) (by omega)
        have F3 : pF P1 = 0 := by rw [← hP1]; exact F1
        have F4 : pF2 P1 = 0 := by rw [← hP1]; exact F2
        have n1 : pG P1 0 = j + 1 := by rw [← hP1]; show addG (pG P) ka (1 + wa) 0 = j + 1; omega
        refine g_aload_n (q := 53) B1 dL_law_52 rfl 1 rfl ?_
        refine g_bipush (q := 55) B1 dL_law_53 rfl (by decide) ?_
        refine g_iload (q := 57) B1 dL_law_55 rfl 4 rfl ?_
        refine g_iconst (q := 58) B1 dL_law_57 rfl ?_
        refine g_iload (q := 60) B1 dL_law_58 rfl 6 rfl ?_
        refine g_imul (q := 61) B1 dL_law_60 rfl ?_
        refine g_ishr (v := iI s1) (q := 62) B1 dL_law_61 rfl (hs1) ?_
        refine g_iconst (q := 63) B1 dL_law_62 rfl ?_
        refine g_iand (v := iI ka) (q := 64) B1 dL_law_63 rfl (hka2) ?_
        refine g_iconst (q := 65) B1 dL_law_64 rfl ?_
        refine g_iload (q := 67) B1 dL_law_65 rfl 4 rfl ?_
        refine g_iconst (q := 68) B1 dL_law_67 rfl ?_
        refine g_iload (q := 70) B1 dL_law_68 rfl 6 rfl ?_
        refine g_imul (q := 71) B1 dL_law_70 rfl ?_
        refine g_iconst (q := 72) B1 dL_law_71 rfl ?_
        refine g_iadd (q := 73) B1 dL_law_72 rfl ?_
        refine g_ishr (v := iI s2) (q := 74) B1 dL_law_73 rfl (hs2) ?_
        refine g_iconst (q := 75) B1 dL_law_74 rfl ?_
        refine g_iand (v := iI wa) (q := 76) B1 dL_law_75 rfl (hwa2) ?_
        refine g_iadd (q := 77) B1 dL_law_76 rfl ?_
        refine g_iconst (q := 78) B1 dL_law_77 rfl ?_
        refine g_callN (q := 81) (m1 := 1) (c2 := c + 1) (As := [.ref (yA Y 72), .int (iI 7), .int (iI ka), .int (iI (1 + wa)), .int (iI 0)]) (st := []) B1 dL_law_78 rfl (k_jewel (Y := Y) (S := S1) hst A1 W1 ka ⟨by omega, by omega⟩ (1 + wa) ⟨by omega, by omega⟩ 0 (x := j) (hx := (tv_0 hcd).trans hn) (P' := P1) (hP := (if_pos hcd).trans hP1)) eL_call w179 (by decide) rfl rfl (Nat.le_of_ble_eq_true rfl) (by omega) (Nat.le_trans (show c + 1 ≤ 100000 by omega) E.2.1) (Nat.le_trans (show 6 * (c + 1) ≤ 6 * 100000 by omega) E.2.2) (fun v S25 hS25 => ?_)
        obtain ⟨rfl, A25, K25⟩ := hS25
        have D25 := PK_o2 D1 K25
        have B26 := gB_K (c := c + 1) B1 (Nat.le_trans (show c + 1 ≤ 100000 by omega) E.2.1) (Nat.le_trans (show 6 * (c + 1) ≤ 6 * 100000 by omega) E.2.2)
        show gW Y (xK X (c + 1)) S25 81 [(0, .ref b), (1, .ref (yA Y 72)), (2, .ref (yA Y 172)), (3, .int (iI tn)), (4, .int (iI x0)), (5, .int (iI 1)), (6, .int (iI j))] [.int (iI j)]
        refine g_iload (q := 83) B26 dL_law_81 rfl 6 rfl ?_
        refine g_icmp_ne (t := 124) (q := 86) B26 dL_law_83 (by decide) rfl ⟨by omega, by omega⟩ ⟨by omega, by omega⟩ (fun cq83 => absurd cq83 (by omega)) (fun cq83 => ?_)
        refine g_aload_n (q := 87) B26 dL_law_86 rfl 2 rfl ?_
        refine g_bipush (q := 89) B26 dL_law_87 rfl (by decide) ?_
        refine g_iload (q := 91) B26 dL_law_89 rfl 4 rfl ?_
        refine g_iconst (q := 92) B26 dL_law_91 rfl ?_
        refine g_iload (q := 94) B26 dL_law_92 rfl 6 rfl ?_
        refine g_imul (q := 95) B26 dL_law_94 rfl ?_
        refine g_ishr (v := iI s1) (q := 96) B26 dL_law_95 rfl (hs1) ?_
        refine g_iconst (q := 97) B26 dL_law_96 rfl ?_
        refine g_iand (v := iI ka) (q := 98) B26 dL_law_97 rfl (hka2) ?_
        refine g_iconst (q := 99) B26 dL_law_98 rfl ?_
        refine g_iload (q := 101) B26 dL_law_99 rfl 4 rfl ?_
        refine g_iconst (q := 102) B26 dL_law_101 rfl ?_
        refine g_iload (q := 104) B26 dL_law_102 rfl 6 rfl ?_
        refine g_imul (q := 105) B26 dL_law_104 rfl ?_
        refine g_iconst (q := 106) B26 dL_law_105 rfl ?_
        refine g_iadd (q := 107) B26 dL_law_106 rfl ?_
        refine g_ishr (v := iI s2) (q := 108) B26 dL_law_107 rfl (hs2) ?_
        refine g_iconst (q := 109) B26 dL_law_108 rfl ?_
        refine g_iand (v := iI wa) (q := 110) B26 dL_law_109 rfl (hwa2) ?_
        refine g_iadd (q := 111) B26 dL_law_110 rfl ?_
        refine g_iconst (q := 112) B26 dL_law_111 rfl ?_
        refine g_callN (q := 115) (m1 := 1) (c2 := c + 2) (As := [.ref (yA Y 172), .int (iI 7), .int (iI ka), .int (iI (1 + wa)), .int (iI 0)]) (st := []) B26 dL_law_112 rfl (gN_sw (k_jewel (Y := ySw Y) (S := sS S25) hst D25 W1 ka ⟨by omega, by omega⟩ (1 + wa) ⟨by omega, by omega⟩ 0 (x := j) (hx := (tv_0 hcd).trans hn) (P' := P1) (hP := (if_pos hcd).trans hP1))) eL_call w179 (by decide) rfl rfl (Nat.le_of_ble_eq_true rfl) (by omega) (Nat.le_trans (show c + 2 ≤ 100000 by omega) E.2.1) (Nat.le_trans (show 6 * (c + 2) ≤ 6 * 100000 by omega) E.2.2) (fun v S27 hS27 => ?_)
        obtain ⟨rfl, D27, K27⟩ := hS27
        have A27 := PK_o1 A25 K27
        have B28 := gB_K (c := c + 2) B26 (Nat.le_trans (show c + 2 ≤ 100000 by omega) E.2.1) (Nat.le_trans (show 6 * (c + 2) ≤ 6 * 100000 by omega) E.2.2)
        show gW Y (xK X (c + 2)) S27 115 [(0, .ref b), (1, .ref (yA Y 72)), (2, .ref (yA Y 172)), (3, .int (iI tn)), (4, .int (iI x0)), (5, .int (iI 1)), (6, .int (iI j))] [.int (iI j)]
        refine g_iload (q := 117) B28 dL_law_115 rfl 6 rfl ?_
        refine g_icmp_ne (t := 124) (q := 120) B28 dL_law_117 (by decide) rfl ⟨by omega, by omega⟩ ⟨by omega, by omega⟩ (fun cq117 => absurd cq117 (by omega)) (fun cq117 => ?_)
        refine g_iconst (q := 121) B28 dL_law_120 rfl ?_
        refine g_goto (q := 125) B28 dL_law_121 (by decide) ?_
        refine g_istore (q := 127) B28 dL_law_125 rfl (by decide) (L' := [(5, .int (iI 1)), (0, .ref b), (1, .ref (yA Y 72)), (2, .ref (yA Y 172)), (3, .int (iI tn)), (4, .int (iI x0)), (6, .int (iI j))]) rfl ?_
        refine g_iinc (n := 6) (q := 130) B28 dL_law_127 rfl rfl (by decide) (L' := [(6, .int (iI (j + 1))), (5, .int (iI 1)), (0, .ref b), (1, .ref (yA Y 72)), (2, .ref (yA Y 172)), (3, .int (iI tn)), (4, .int (iI x0))]) rfl ?_
        refine g_goto (q := 41) B28 dL_law_130 (by decide) ?_
        refine g_sub [2, 3, 4, 5, 6, 1, 0] rfl ?_
        exact ih tn x0 (j + 1) (c + 2) S27 P1 ht W2 C2 F3 F4 n1 A27 D27 B28 (by omega) (by omega) (by omega) (by omega)
  refine g_bipush (q := 18) B dL_law_16 rfl (by decide) ?_
  refine g_aload_n (q := 19) B dL_law_18 rfl 0 rfl ?_
  refine g_iconst (q := 20) B dL_law_19 rfl ?_
  refine g_callC (q := 23) (As := [.ref b, .int (iI 0)]) (st := [.int (iI 12)]) B hsc dL_law_20 rfl (c_cell (Y := Y) (S := S) 0 ⟨by omega, by omega⟩) eL_cell w836 (by decide) rfl rfl (Nat.le_of_ble_eq_true rfl) (Nat.le_trans (show 500 ≤ 100000 by omega) E.2.1) (Nat.le_trans (show 6 * (500) ≤ 6 * 100000 by omega) E.2.2) (fun v S29 hS29 => ?_)
  obtain ⟨z29, hz29, rfl, eS29⟩ := hS29
  rw [eS29]
  show gW Y (xK X (500)) S 23 [(0, .ref b), (1, .ref (yA Y 72)), (2, .ref (yA Y 172))] [.int (iI z29), .int (iI 12)]
  refine g_bipush (q := 25) B dL_law_23 rfl (by decide) ?_
  refine g_irem (q := 26) B dL_law_25 rfl (by omega) (by omega) (by omega) (by omega) ?_
  refine g_iadd (q := 27) B dL_law_26 rfl ?_
  refine g_istore_n (q := 28) B dL_law_27 rfl (by decide) (L' := [(3, .int (iI (12 + (z29 % 21)))), (0, .ref b), (1, .ref (yA Y 72)), (2, .ref (yA Y 172))]) rfl ?_
  refine g_aload_n (q := 29) B dL_law_28 rfl 1 rfl ?_
  refine g_iconst (q := 30) B dL_law_29 rfl ?_
  refine g_callC (q := 33) (As := [.ref b, .int (iI 1)]) (st := []) B hsc dL_law_30 rfl (c_cell (Y := Y) (S := S) 1 ⟨by omega, by omega⟩) eL_cell w836 (by decide) rfl rfl (Nat.le_of_ble_eq_true rfl) (Nat.le_trans (show 500 ≤ 100000 by omega) E.2.1) (Nat.le_trans (show 6 * (500) ≤ 6 * 100000 by omega) E.2.2) (fun v S30 hS30 => ?_)
  obtain ⟨z30, hz30, rfl, eS30⟩ := hS30
  rw [eS30]
  show gW Y (xK X (500)) S 33 [(3, .int (iI (12 + (z29 % 21)))), (0, .ref b), (1, .ref (yA Y 72)), (2, .ref (yA Y 172))] [.int (iI z30)]
  refine g_istore (q := 35) B dL_law_33 rfl (by decide) (L' := [(4, .int (iI z30)), (3, .int (iI (12 + (z29 % 21)))), (0, .ref b), (1, .ref (yA Y 72)), (2, .ref (yA Y 172))]) rfl ?_
  refine g_iconst (q := 36) B dL_law_35 rfl ?_
  refine g_istore (q := 38) B dL_law_36 rfl (by decide) (L' := [(5, .int (iI 1)), (4, .int (iI z30)), (3, .int (iI (12 + (z29 % 21)))), (0, .ref b), (1, .ref (yA Y 72)), (2, .ref (yA Y 172))]) rfl ?_
  refine g_iconst (q := 39) B dL_law_38 rfl ?_
  refine g_istore (q := 41) B dL_law_39 rfl (by decide) (L' := [(6, .int (iI 0)), (5, .int (iI 1)), (4, .int (iI z30)), (3, .int (iI (12 + (z29 % 21)))), (0, .ref b), (1, .ref (yA Y 72)), (2, .ref (yA Y 172))]) rfl ?_
  refine g_sub [4, 5, 6, 3, 2, 1, 0] rfl ?_
  exact lp41 _ (12 + (z29 % 21)) z30 0 500 S P (by omega) W0 C0 F0a F0b n0 A0 D0 B (by omega) (by omega) (by omega) (Nat.lt_succ_self _)
theorem wo36 : Cond.classLink "NecklaceSistersLaw" 8 "NecklaceSisters" ∈ lw_g := lw_gin (List.mem_of_getElem? (i := 36) (by decide +kernel)) rfl
theorem wo37 : Cond.instantiable "NecklaceSisters" (7 : Nat) ∈ lw_g := lw_gin (List.mem_of_getElem? (i := 37) (by decide +kernel)) rfl
theorem wo38 : Cond.methodLink "NecklaceSistersLaw" 196 ⟨"NecklaceSisters", "<init>", "()V"⟩ ∈ lw_g := lw_gin (List.mem_of_getElem? (i := 38) (by decide +kernel)) rfl
theorem wo39 : Cond.instanceMethod ⟨"NecklaceSisters", "<init>", "()V"⟩ ∈ lw_g := lw_gin (List.mem_of_getElem? (i := 39) (by decide +kernel)) rfl
theorem wo40 : Cond.code ({ cls := "NecklaceSisters", name := "<init>", desc := "()V" } : MethodName) prog_1_method_1_code (1 : Nat) (Option.none : Option ClassFile.FieldType) ∈ lw_g := lw_gin (List.mem_of_getElem? (i := 40) (by decide +kernel)) rfl
theorem wo16 : Cond.initialized "NecklaceSisters" ∈ lw_g := lw_gin (List.mem_of_getElem? (i := 16) (by decide +kernel)) rfl
set_option maxHeartbeats 4000000 in
theorem law_entry {Y : gY} {X : gX} {b N : Nat} {xs : Nat → Int32} {ret : Option FieldType} (hA : yA Y = fun n => yB Y + ad2 n) (B : nB Y (xAt X 0 0) "NecklaceSistersLaw" cL_law 9 ret 100) (G : gC Y (xS X)) (hst : (xL X).stackTraces = false) (hX : gSc Y b N xs (xS X)) (hro : 100000 ≤ (xR X).cells ∧ 6 * 100000 ≤ (xR X).slots)
    (hfin : ∀ (c : Nat) (S : SS) (L : List (Nat × Value)), c ≤ 100000 → gW Y (xK X c) S 287 L [.int (iI 1)]) : nW Y (xAt X 0 0) nE0 (yB Y) 0 [(0, .ref b)] [] := by
  refine m_new (c' := 1) (n' := 7) (q := 3) (fs := [.null, .null, .null, .null, .null, .null, .null]) B dL_law_0 rfl cls5 wo36 wo37 wo16 (fun j hj => by rcases (show j = 0 ∨ j = 1 ∨ j = 2 ∨ j = 3 ∨ j = 4 ∨ j = 5 ∨ j = 6 by omega) with rfl | rfl | rfl | rfl | rfl | rfl | rfl <;> rfl) rfl rfl (Nat.le_trans (by decide) hro.1) (Nat.le_trans (by decide) hro.2) (fun B1 => ?_)
  refine n_dup (q := 4) B1 dL_law_3 rfl rfl ?_
  refine m_ctor (c' := 82) (n' := 1203) (q := 7) B1 dL_law_4 rfl (n_X7 (Y := Y) (l := xL X) (E := nE0) (a := yB Y) (Nat.le_refl _)) wo40 wo39 wo16 wo38 rfl (by decide +kernel) (by decide) (by decide) (by omega) (Nat.le_of_ble_eq_true rfl) rfl rfl (Nat.le_trans (by decide) hro.1) (Nat.le_trans (by decide) hro.2) (fun B2 => ?_)
  refine n_astore_n (q := 8) B2 dL_law_7 rfl (by decide) (L' := [(1, .ref (yB Y)), (0, .ref b)]) rfl ?_
  refine m_new (c' := 83) (n' := 1210) (q := 11) (fs := [.null, .null, .null, .null, .null, .null, .null]) B2 dL_law_8 rfl cls5 wo36 wo37 wo16 (fun j hj => by rcases (show j = 0 ∨ j = 1 ∨ j = 2 ∨ j = 3 ∨ j = 4 ∨ j = 5 ∨ j = 6 by omega) with rfl | rfl | rfl | rfl | rfl | rfl | rfl <;> rfl) rfl rfl (Nat.le_trans (by decide) hro.1) (Nat.le_trans (by decide) hro.2) (fun B3 => ?_)
  refine n_dup (q := 12) B3 dL_law_11 rfl rfl ?_
  refine m_ctor (c' := 164) (n' := 2406) (q := 15) B3 dL_law_12 rfl (n_X7 (Y := Y) (l := xL X) (E := clE Y nE0 (yB Y)) (a := yB Y + 82) (by omega)) wo40 wo39 wo16 wo38 rfl (by decide +kernel) (by decide) (by decide) (by omega) (Nat.le_of_ble_eq_true rfl) rfl rfl (Nat.le_trans (by decide) hro.1) (Nat.le_trans (by decide) hro.2) (fun B4 => ?_)
  refine n_astore_n (q := 16) B4 dL_law_15 rfl (by decide) (L' := [(2, .ref (yB Y + 82)), (1, .ref (yB Y)), (0, .ref b)]) rfl ?_
  refine n_to_g (fun H hP => fi_two hA hP) ?_
  refine g_wid (c := 500) (by decide) (by decide) ?_
  refine g_sub [2, 1, 0] rfl ?_
  have e72 : yA Y 72 = yB Y := by rw [hA]; rfl
  have e172 : yA Y 172 = yB Y + 82 := by rw [hA]; rfl
  have BG : gB Y (xK X 500) "NecklaceSistersLaw" cL_law 9 ret 100 := by
    obtain ⟨a1, a2, a3, a4, a5, a6, a7, a8, a9, b1, b2, b3, b4⟩ := B4
    exact ⟨a1, a2, a3, a4, a5, a6, G, a8, a9, b1, Nat.le_trans (show 500 ≤ 100000 by decide) hro.1, Nat.le_trans (show 6 * 500 ≤ 6 * 100000 by decide) hro.2⟩
  have key := law_body (S := Z0) (P := picOf Z0) hst hX hro hfin PK_Z0 PK_Z0 WF_Z0 CH_Z0 rfl rfl (by show vw Z0 0 0 = 0; rw [vw_Z0]) BG
  rw [e72, e172] at key
  exact key
